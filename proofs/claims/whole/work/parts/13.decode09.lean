theorem dX12_doParts_24 : decode cX12_doParts 24 = .ok (.ifCond .eq 48, 3) := by decide +kernel
theorem dX12_doParts_27 : decode cX12_doParts 27 = .ok (.aload_n 0, 1) := by decide +kernel
theorem dX12_doParts_28 : decode cX12_doParts 28 = .ok (.iload_n 2, 1) := by decide +kernel
theorem dX12_doParts_29 : decode cX12_doParts 29 = .ok (.invokevirtual 467, 3) := by decide +kernel
theorem dX12_doParts_32 : decode cX12_doParts 32 = .ok (.istore 4, 2) := by decide +kernel
theorem dX12_doParts_34 : decode cX12_doParts 34 = .ok (.iload 4, 2) := by decide +kernel
theorem dX12_doParts_36 : decode cX12_doParts 36 = .ok (.ifCond .le 6, 3) := by decide +kernel
theorem dX12_doParts_39 : decode cX12_doParts 39 = .ok (.iload 4, 2) := by decide +kernel
theorem dX12_doParts_41 : decode cX12_doParts 41 = .ok (.ireturn, 1) := by decide +kernel
theorem dX12_doParts_42 : decode cX12_doParts 42 = .ok (.aload_n 0, 1) := by decide +kernel
theorem dX12_doParts_43 : decode cX12_doParts 43 = .ok (.iload_n 2, 1) := by decide +kernel
theorem dX12_doParts_44 : decode cX12_doParts 44 = .ok (.iconst 1, 1) := by decide +kernel
theorem dX12_doParts_45 : decode cX12_doParts 45 = .ok (.invokevirtual 470, 3) := by decide +kernel
theorem dX12_doParts_48 : decode cX12_doParts 48 = .ok (.istore_n 2, 1) := by decide +kernel
theorem dX12_doParts_49 : decode cX12_doParts 49 = .ok (.aload_n 0, 1) := by decide +kernel
theorem dX12_doParts_50 : decode cX12_doParts 50 = .ok (.getfield 44, 3) := by decide +kernel
theorem dX12_doParts_53 : decode cX12_doParts 53 = .ok (.iload_n 2, 1) := by decide +kernel
theorem dX12_doParts_54 : decode cX12_doParts 54 = .ok (.iaload, 1) := by decide +kernel
theorem dX12_doParts_55 : decode cX12_doParts 55 = .ok (.bipush 59, 2) := by decide +kernel
theorem dX12_doParts_57 : decode cX12_doParts 57 = .ok (.if_icmp .ne 7, 3) := by decide +kernel
theorem dX12_doParts_60 : decode cX12_doParts 60 = .ok (.iconst 1, 1) := by decide +kernel
theorem dX12_doParts_61 : decode cX12_doParts 61 = .ok (.goto 4, 3) := by decide +kernel
theorem dX12_doParts_64 : decode cX12_doParts 64 = .ok (.iconst 0, 1) := by decide +kernel
theorem dX12_doParts_65 : decode cX12_doParts 65 = .ok (.istore_n 3, 1) := by decide +kernel
theorem dX12_doParts_66 : decode cX12_doParts 66 = .ok (.iinc 2 1, 3) := by decide +kernel
theorem dX12_doParts_69 : decode cX12_doParts 69 = .ok (.goto (-46), 3) := by decide +kernel
theorem dX12_doParts_72 : decode cX12_doParts 72 = .ok (.iconst 0, 1) := by decide +kernel
theorem dX12_doParts_73 : decode cX12_doParts 73 = .ok (.ireturn, 1) := by decide +kernel
theorem dX12_each_0 : decode cX12_each 0 = .ok (.aload_n 0, 1) := by decide +kernel
theorem dX12_each_1 : decode cX12_each 1 = .ok (.getfield 44, 3) := by decide +kernel
theorem dX12_each_4 : decode cX12_each 4 = .ok (.iload_n 1, 1) := by decide +kernel
theorem dX12_each_5 : decode cX12_each 5 = .ok (.iaload, 1) := by decide +kernel
theorem dX12_each_6 : decode cX12_each 6 = .ok (.istore_n 2, 1) := by decide +kernel
theorem dX12_each_7 : decode cX12_each 7 = .ok (.iload_n 1, 1) := by decide +kernel
theorem dX12_each_8 : decode cX12_each 8 = .ok (.istore_n 3, 1) := by decide +kernel
theorem dX12_each_9 : decode cX12_each 9 = .ok (.iconst 0, 1) := by decide +kernel
theorem dX12_each_10 : decode cX12_each 10 = .ok (.istore 4, 2) := by decide +kernel
theorem dX12_each_12 : decode cX12_each 12 = .ok (.iload_n 2, 1) := by decide +kernel
theorem dX12_each_13 : decode cX12_each 13 = .ok (.bipush 123, 2) := by decide +kernel
theorem dX12_each_15 : decode cX12_each 15 = .ok (.if_icmp .eq 19, 3) := by decide +kernel
theorem dX12_each_18 : decode cX12_each 18 = .ok (.aload_n 0, 1) := by decide +kernel
theorem dX12_each_19 : decode cX12_each 19 = .ok (.iload_n 1, 1) := by decide +kernel
theorem dX12_each_20 : decode cX12_each 20 = .ok (.iconst 2, 1) := by decide +kernel
theorem dX12_each_21 : decode cX12_each 21 = .ok (.iadd, 1) := by decide +kernel
theorem dX12_each_22 : decode cX12_each 22 = .ok (.bipush 47, 2) := by decide +kernel
theorem dX12_each_24 : decode cX12_each 24 = .ok (.invokevirtual 310, 3) := by decide +kernel
theorem dX12_each_27 : decode cX12_each 27 = .ok (.aload_n 0, 1) := by decide +kernel
theorem dX12_each_28 : decode cX12_each 28 = .ok (.getfield 268, 3) := by decide +kernel
theorem dX12_each_31 : decode cX12_each 31 = .ok (.iconst 1, 1) := by decide +kernel
theorem dX12_each_32 : decode cX12_each 32 = .ok (.iadd, 1) := by decide +kernel
theorem dX12_each_33 : decode cX12_each 33 = .ok (.istore_n 3, 1) := by decide +kernel
theorem dX12_each_34 : decode cX12_each 34 = .ok (.aload_n 0, 1) := by decide +kernel
theorem dX12_each_35 : decode cX12_each 35 = .ok (.getfield 317, 3) := by decide +kernel
theorem dX12_each_38 : decode cX12_each 38 = .ok (.istore 5, 2) := by decide +kernel
theorem dX12_each_40 : decode cX12_each 40 = .ok (.iload 5, 2) := by decide +kernel
theorem dX12_each_42 : decode cX12_each 42 = .ok (.aload_n 0, 1) := by decide +kernel
theorem dX12_each_43 : decode cX12_each 43 = .ok (.getfield 320, 3) := by decide +kernel
theorem dX12_each_46 : decode cX12_each 46 = .ok (.if_icmp .gt 58, 3) := by decide +kernel
theorem dX12_each_49 : decode cX12_each 49 = .ok (.iload_n 2, 1) := by decide +kernel
theorem dX12_each_50 : decode cX12_each 50 = .ok (.bipush 123, 2) := by decide +kernel
theorem dX12_each_52 : decode cX12_each 52 = .ok (.if_icmp .eq 27, 3) := by decide +kernel
theorem dX12_each_55 : decode cX12_each 55 = .ok (.aload_n 0, 1) := by decide +kernel
theorem dX12_each_56 : decode cX12_each 56 = .ok (.iload 5, 2) := by decide +kernel
theorem dX12_each_58 : decode cX12_each 58 = .ok (.invokestatic 298, 3) := by decide +kernel
theorem dX12_each_61 : decode cX12_each 61 = .ok (.iconst 0, 1) := by decide +kernel
theorem dX12_each_62 : decode cX12_each 62 = .ok (.invokevirtual 292, 3) := by decide +kernel
theorem dX12_each_65 : decode cX12_each 65 = .ok (.iload_n 2, 1) := by decide +kernel
theorem dX12_each_66 : decode cX12_each 66 = .ok (.bipush 103, 2) := by decide +kernel
theorem dX12_each_68 : decode cX12_each 68 = .ok (.if_icmp .ne 7, 3) := by decide +kernel
theorem dX12_each_71 : decode cX12_each 71 = .ok (.iconst 1, 1) := by decide +kernel
theorem dX12_each_72 : decode cX12_each 72 = .ok (.goto 4, 3) := by decide +kernel
theorem dX12_each_75 : decode cX12_each 75 = .ok (.iconst 0, 1) := by decide +kernel
theorem dX12_each_76 : decode cX12_each 76 = .ok (.if_icmp .ne 22, 3) := by decide +kernel
theorem dX12_each_79 : decode cX12_each 79 = .ok (.aload_n 0, 1) := by decide +kernel
theorem dX12_each_80 : decode cX12_each 80 = .ok (.getfield 59, 3) := by decide +kernel
theorem dX12_each_83 : decode cX12_each 83 = .ok (.iload 4, 2) := by decide +kernel
theorem dX12_each_85 : decode cX12_each 85 = .ok (.aload_n 0, 1) := by decide +kernel
theorem dX12_each_86 : decode cX12_each 86 = .ok (.getfield 26, 3) := by decide +kernel
theorem dX12_each_89 : decode cX12_each 89 = .ok (.iload 5, 2) := by decide +kernel
theorem dX12_each_91 : decode cX12_each 91 = .ok (.iconst 1, 1) := by decide +kernel
theorem dX12_each_92 : decode cX12_each 92 = .ok (.isub, 1) := by decide +kernel
theorem dX12_each_93 : decode cX12_each 93 = .ok (.iaload, 1) := by decide +kernel
theorem dX12_each_94 : decode cX12_each 94 = .ok (.iastore, 1) := by decide +kernel
theorem dX12_each_95 : decode cX12_each 95 = .ok (.iinc 4 1, 3) := by decide +kernel
theorem dX12_each_98 : decode cX12_each 98 = .ok (.iinc 5 1, 3) := by decide +kernel
theorem dX12_each_101 : decode cX12_each 101 = .ok (.goto (-61), 3) := by decide +kernel
theorem dX12_each_104 : decode cX12_each 104 = .ok (.iconst 0, 1) := by decide +kernel
theorem dX12_each_105 : decode cX12_each 105 = .ok (.istore 5, 2) := by decide +kernel
theorem dX12_each_107 : decode cX12_each 107 = .ok (.iload 5, 2) := by decide +kernel
theorem dX12_each_109 : decode cX12_each 109 = .ok (.iload 4, 2) := by decide +kernel
theorem dX12_each_111 : decode cX12_each 111 = .ok (.if_icmp .ge 48, 3) := by decide +kernel
theorem dX12_each_114 : decode cX12_each 114 = .ok (.aload_n 0, 1) := by decide +kernel
theorem dX12_each_115 : decode cX12_each 115 = .ok (.aload_n 0, 1) := by decide +kernel
theorem dX12_each_116 : decode cX12_each 116 = .ok (.getfield 59, 3) := by decide +kernel
theorem dX12_each_119 : decode cX12_each 119 = .ok (.iload 5, 2) := by decide +kernel
theorem dX12_each_121 : decode cX12_each 121 = .ok (.iaload, 1) := by decide +kernel
theorem dX12_each_122 : decode cX12_each 122 = .ok (.invokevirtual 307, 3) := by decide +kernel
theorem dX12_each_125 : decode cX12_each 125 = .ok (.istore 6, 2) := by decide +kernel
theorem dX12_each_127 : decode cX12_each 127 = .ok (.iload 6, 2) := by decide +kernel
theorem dX12_each_129 : decode cX12_each 129 = .ok (.ifCond .le 24, 3) := by decide +kernel
theorem dX12_each_132 : decode cX12_each 132 = .ok (.aload_n 0, 1) := by decide +kernel
theorem dX12_each_133 : decode cX12_each 133 = .ok (.iload 6, 2) := by decide +kernel
theorem dX12_each_135 : decode cX12_each 135 = .ok (.putfield 295, 3) := by decide +kernel
theorem dX12_each_138 : decode cX12_each 138 = .ok (.aload_n 0, 1) := by decide +kernel
theorem dX12_each_139 : decode cX12_each 139 = .ok (.iload_n 3, 1) := by decide +kernel
theorem dX12_each_140 : decode cX12_each 140 = .ok (.invokevirtual 473, 3) := by decide +kernel
theorem dX12_each_143 : decode cX12_each 143 = .ok (.istore 7, 2) := by decide +kernel
theorem dX12_each_145 : decode cX12_each 145 = .ok (.iload 7, 2) := by decide +kernel
theorem dX12_each_147 : decode cX12_each 147 = .ok (.ifCond .le 6, 3) := by decide +kernel
theorem dX12_each_150 : decode cX12_each 150 = .ok (.iload 7, 2) := by decide +kernel
theorem dX12_each_152 : decode cX12_each 152 = .ok (.ireturn, 1) := by decide +kernel
theorem dX12_each_153 : decode cX12_each 153 = .ok (.iinc 5 1, 3) := by decide +kernel
theorem dX12_each_156 : decode cX12_each 156 = .ok (.goto (-49), 3) := by decide +kernel
theorem dX12_each_159 : decode cX12_each 159 = .ok (.iconst 0, 1) := by decide +kernel
theorem dX12_each_160 : decode cX12_each 160 = .ok (.ireturn, 1) := by decide +kernel
theorem dX12_save_0 : decode cX12_save 0 = .ok (.iconst 0, 1) := by decide +kernel
theorem dX12_save_1 : decode cX12_save 1 = .ok (.istore_n 1, 1) := by decide +kernel
theorem dX12_save_2 : decode cX12_save 2 = .ok (.iload_n 1, 1) := by decide +kernel
theorem dX12_save_3 : decode cX12_save 3 = .ok (.sipush 12028, 3) := by decide +kernel
theorem dX12_save_6 : decode cX12_save 6 = .ok (.if_icmp .ge 25, 3) := by decide +kernel
theorem dX12_save_9 : decode cX12_save 9 = .ok (.aload_n 0, 1) := by decide +kernel
theorem dX12_save_10 : decode cX12_save 10 = .ok (.getfield 23, 3) := by decide +kernel
theorem dX12_save_13 : decode cX12_save 13 = .ok (.sipush 14880, 3) := by decide +kernel
theorem dX12_save_16 : decode cX12_save 16 = .ok (.iload_n 1, 1) := by decide +kernel
theorem dX12_save_17 : decode cX12_save 17 = .ok (.iadd, 1) := by decide +kernel
theorem dX12_save_18 : decode cX12_save 18 = .ok (.aload_n 0, 1) := by decide +kernel
theorem dX12_save_19 : decode cX12_save 19 = .ok (.getfield 23, 3) := by decide +kernel
theorem dX12_save_22 : decode cX12_save 22 = .ok (.iload_n 1, 1) := by decide +kernel
theorem dX12_save_23 : decode cX12_save 23 = .ok (.iaload, 1) := by decide +kernel
theorem dX12_save_24 : decode cX12_save 24 = .ok (.iastore, 1) := by decide +kernel
theorem dX12_save_25 : decode cX12_save 25 = .ok (.iinc 1 1, 3) := by decide +kernel
theorem dX12_save_28 : decode cX12_save 28 = .ok (.goto (-26), 3) := by decide +kernel
theorem dX12_save_31 : decode cX12_save 31 = .ok (.iconst 0, 1) := by decide +kernel
theorem dX12_save_32 : decode cX12_save 32 = .ok (.istore_n 1, 1) := by decide +kernel
theorem dX12_save_33 : decode cX12_save 33 = .ok (.iload_n 1, 1) := by decide +kernel
theorem dX12_save_34 : decode cX12_save 34 = .ok (.bipush 41, 2) := by decide +kernel
theorem dX12_save_36 : decode cX12_save 36 = .ok (.if_icmp .ge 21, 3) := by decide +kernel
theorem dX12_save_39 : decode cX12_save 39 = .ok (.aload_n 0, 1) := by decide +kernel
theorem dX12_save_40 : decode cX12_save 40 = .ok (.getfield 62, 3) := by decide +kernel
theorem dX12_save_43 : decode cX12_save 43 = .ok (.iload_n 1, 1) := by decide +kernel
theorem dX12_save_44 : decode cX12_save 44 = .ok (.aload_n 0, 1) := by decide +kernel
theorem dX12_save_45 : decode cX12_save 45 = .ok (.getfield 26, 3) := by decide +kernel
theorem dX12_save_48 : decode cX12_save 48 = .ok (.iload_n 1, 1) := by decide +kernel
theorem dX12_save_49 : decode cX12_save 49 = .ok (.iaload, 1) := by decide +kernel
theorem dX12_save_50 : decode cX12_save 50 = .ok (.iastore, 1) := by decide +kernel
theorem dX12_save_51 : decode cX12_save 51 = .ok (.iinc 1 1, 3) := by decide +kernel
theorem dX12_save_54 : decode cX12_save 54 = .ok (.goto (-21), 3) := by decide +kernel
theorem dX12_save_57 : decode cX12_save 57 = .ok (.iconst 0, 1) := by decide +kernel
theorem dX12_save_58 : decode cX12_save 58 = .ok (.istore_n 1, 1) := by decide +kernel
theorem dX12_save_59 : decode cX12_save 59 = .ok (.iload_n 1, 1) := by decide +kernel
theorem dX12_save_60 : decode cX12_save 60 = .ok (.iconst 5, 1) := by decide +kernel
theorem dX12_save_61 : decode cX12_save 61 = .ok (.if_icmp .ge 21, 3) := by decide +kernel
theorem dX12_save_64 : decode cX12_save 64 = .ok (.aload_n 0, 1) := by decide +kernel
theorem dX12_save_65 : decode cX12_save 65 = .ok (.getfield 65, 3) := by decide +kernel
theorem dX12_save_68 : decode cX12_save 68 = .ok (.iload_n 1, 1) := by decide +kernel
theorem dX12_save_69 : decode cX12_save 69 = .ok (.aload_n 0, 1) := by decide +kernel
theorem dX12_save_70 : decode cX12_save 70 = .ok (.getfield 35, 3) := by decide +kernel
theorem dX12_save_73 : decode cX12_save 73 = .ok (.iload_n 1, 1) := by decide +kernel
theorem dX12_save_74 : decode cX12_save 74 = .ok (.iaload, 1) := by decide +kernel
theorem dX12_save_75 : decode cX12_save 75 = .ok (.iastore, 1) := by decide +kernel
theorem dX12_save_76 : decode cX12_save 76 = .ok (.iinc 1 1, 3) := by decide +kernel
theorem dX12_save_79 : decode cX12_save 79 = .ok (.goto (-20), 3) := by decide +kernel
theorem dX12_save_82 : decode cX12_save 82 = .ok (.iconst 0, 1) := by decide +kernel
theorem dX12_save_83 : decode cX12_save 83 = .ok (.istore_n 1, 1) := by decide +kernel
theorem dX12_save_84 : decode cX12_save 84 = .ok (.iload_n 1, 1) := by decide +kernel
theorem dX12_save_85 : decode cX12_save 85 = .ok (.iconst 4, 1) := by decide +kernel
theorem dX12_save_86 : decode cX12_save 86 = .ok (.if_icmp .ge 21, 3) := by decide +kernel
theorem dX12_save_89 : decode cX12_save 89 = .ok (.aload_n 0, 1) := by decide +kernel
theorem dX12_save_90 : decode cX12_save 90 = .ok (.getfield 68, 3) := by decide +kernel
theorem dX12_save_93 : decode cX12_save 93 = .ok (.iload_n 1, 1) := by decide +kernel
theorem dX12_save_94 : decode cX12_save 94 = .ok (.aload_n 0, 1) := by decide +kernel
theorem dX12_save_95 : decode cX12_save 95 = .ok (.getfield 38, 3) := by decide +kernel
theorem dX12_save_98 : decode cX12_save 98 = .ok (.iload_n 1, 1) := by decide +kernel
theorem dX12_save_99 : decode cX12_save 99 = .ok (.iaload, 1) := by decide +kernel
theorem dX12_save_100 : decode cX12_save 100 = .ok (.iastore, 1) := by decide +kernel
theorem dX12_save_101 : decode cX12_save 101 = .ok (.iinc 1 1, 3) := by decide +kernel
theorem dX12_save_104 : decode cX12_save 104 = .ok (.goto (-20), 3) := by decide +kernel
theorem dX12_save_107 : decode cX12_save 107 = .ok (.aload_n 0, 1) := by decide +kernel
theorem dX12_save_108 : decode cX12_save 108 = .ok (.aload_n 0, 1) := by decide +kernel
theorem dX12_save_109 : decode cX12_save 109 = .ok (.getfield 124, 3) := by decide +kernel
theorem dX12_save_112 : decode cX12_save 112 = .ok (.putfield 476, 3) := by decide +kernel
theorem dX12_save_115 : decode cX12_save 115 = .ok (.aload_n 0, 1) := by decide +kernel
theorem dX12_save_116 : decode cX12_save 116 = .ok (.aload_n 0, 1) := by decide +kernel
theorem dX12_save_117 : decode cX12_save 117 = .ok (.getfield 366, 3) := by decide +kernel
theorem dX12_save_120 : decode cX12_save 120 = .ok (.putfield 479, 3) := by decide +kernel
theorem dX12_save_123 : decode cX12_save 123 = .ok (.aload_n 0, 1) := by decide +kernel
theorem dX12_save_124 : decode cX12_save 124 = .ok (.aload_n 0, 1) := by decide +kernel
theorem dX12_save_125 : decode cX12_save 125 = .ok (.getfield 357, 3) := by decide +kernel
theorem dX12_save_128 : decode cX12_save 128 = .ok (.putfield 482, 3) := by decide +kernel
theorem dX12_save_131 : decode cX12_save 131 = .ok (.aload_n 0, 1) := by decide +kernel
theorem dX12_save_132 : decode cX12_save 132 = .ok (.aload_n 0, 1) := by decide +kernel
theorem dX12_save_133 : decode cX12_save 133 = .ok (.getfield 295, 3) := by decide +kernel
theorem dX12_save_136 : decode cX12_save 136 = .ok (.putfield 485, 3) := by decide +kernel
theorem dX12_save_139 : decode cX12_save 139 = .ok (.aload_n 0, 1) := by decide +kernel
theorem dX12_save_140 : decode cX12_save 140 = .ok (.aload_n 0, 1) := by decide +kernel
theorem dX12_save_141 : decode cX12_save 141 = .ok (.getfield 134, 3) := by decide +kernel
theorem dX12_save_144 : decode cX12_save 144 = .ok (.putfield 488, 3) := by decide +kernel
theorem dX12_save_147 : decode cX12_save 147 = .ok (.return_, 1) := by decide +kernel
theorem dX12_comeBack_0 : decode cX12_comeBack 0 = .ok (.iconst 0, 1) := by decide +kernel
theorem dX12_comeBack_1 : decode cX12_comeBack 1 = .ok (.istore_n 1, 1) := by decide +kernel
theorem dX12_comeBack_2 : decode cX12_comeBack 2 = .ok (.iload_n 1, 1) := by decide +kernel
theorem dX12_comeBack_3 : decode cX12_comeBack 3 = .ok (.sipush 12028, 3) := by decide +kernel
theorem dX12_comeBack_6 : decode cX12_comeBack 6 = .ok (.if_icmp .ge 25, 3) := by decide +kernel
theorem dX12_comeBack_9 : decode cX12_comeBack 9 = .ok (.aload_n 0, 1) := by decide +kernel
theorem dX12_comeBack_10 : decode cX12_comeBack 10 = .ok (.getfield 23, 3) := by decide +kernel
theorem dX12_comeBack_13 : decode cX12_comeBack 13 = .ok (.iload_n 1, 1) := by decide +kernel
theorem dX12_comeBack_14 : decode cX12_comeBack 14 = .ok (.aload_n 0, 1) := by decide +kernel
theorem dX12_comeBack_15 : decode cX12_comeBack 15 = .ok (.getfield 23, 3) := by decide +kernel
theorem dX12_comeBack_18 : decode cX12_comeBack 18 = .ok (.sipush 14880, 3) := by decide +kernel
theorem dX12_comeBack_21 : decode cX12_comeBack 21 = .ok (.iload_n 1, 1) := by decide +kernel
theorem dX12_comeBack_22 : decode cX12_comeBack 22 = .ok (.iadd, 1) := by decide +kernel
theorem dX12_comeBack_23 : decode cX12_comeBack 23 = .ok (.iaload, 1) := by decide +kernel
theorem dX12_comeBack_24 : decode cX12_comeBack 24 = .ok (.iastore, 1) := by decide +kernel
theorem dX12_comeBack_25 : decode cX12_comeBack 25 = .ok (.iinc 1 1, 3) := by decide +kernel
theorem dX12_comeBack_28 : decode cX12_comeBack 28 = .ok (.goto (-26), 3) := by decide +kernel
theorem dX12_comeBack_31 : decode cX12_comeBack 31 = .ok (.iconst 0, 1) := by decide +kernel
theorem dX12_comeBack_32 : decode cX12_comeBack 32 = .ok (.istore_n 1, 1) := by decide +kernel
theorem dX12_comeBack_33 : decode cX12_comeBack 33 = .ok (.iload_n 1, 1) := by decide +kernel
theorem dX12_comeBack_34 : decode cX12_comeBack 34 = .ok (.bipush 41, 2) := by decide +kernel
theorem dX12_comeBack_36 : decode cX12_comeBack 36 = .ok (.if_icmp .ge 21, 3) := by decide +kernel
theorem dX12_comeBack_39 : decode cX12_comeBack 39 = .ok (.aload_n 0, 1) := by decide +kernel
theorem dX12_comeBack_40 : decode cX12_comeBack 40 = .ok (.getfield 26, 3) := by decide +kernel
theorem dX12_comeBack_43 : decode cX12_comeBack 43 = .ok (.iload_n 1, 1) := by decide +kernel
theorem dX12_comeBack_44 : decode cX12_comeBack 44 = .ok (.aload_n 0, 1) := by decide +kernel
theorem dX12_comeBack_45 : decode cX12_comeBack 45 = .ok (.getfield 62, 3) := by decide +kernel
theorem dX12_comeBack_48 : decode cX12_comeBack 48 = .ok (.iload_n 1, 1) := by decide +kernel
theorem dX12_comeBack_49 : decode cX12_comeBack 49 = .ok (.iaload, 1) := by decide +kernel
theorem dX12_comeBack_50 : decode cX12_comeBack 50 = .ok (.iastore, 1) := by decide +kernel
theorem dX12_comeBack_51 : decode cX12_comeBack 51 = .ok (.iinc 1 1, 3) := by decide +kernel
theorem dX12_comeBack_54 : decode cX12_comeBack 54 = .ok (.goto (-21), 3) := by decide +kernel
theorem dX12_comeBack_57 : decode cX12_comeBack 57 = .ok (.iconst 0, 1) := by decide +kernel
theorem dX12_comeBack_58 : decode cX12_comeBack 58 = .ok (.istore_n 1, 1) := by decide +kernel
theorem dX12_comeBack_59 : decode cX12_comeBack 59 = .ok (.iload_n 1, 1) := by decide +kernel
theorem dX12_comeBack_60 : decode cX12_comeBack 60 = .ok (.iconst 5, 1) := by decide +kernel
theorem dX12_comeBack_61 : decode cX12_comeBack 61 = .ok (.if_icmp .ge 21, 3) := by decide +kernel
theorem dX12_comeBack_64 : decode cX12_comeBack 64 = .ok (.aload_n 0, 1) := by decide +kernel
theorem dX12_comeBack_65 : decode cX12_comeBack 65 = .ok (.getfield 35, 3) := by decide +kernel
theorem dX12_comeBack_68 : decode cX12_comeBack 68 = .ok (.iload_n 1, 1) := by decide +kernel
theorem dX12_comeBack_69 : decode cX12_comeBack 69 = .ok (.aload_n 0, 1) := by decide +kernel
theorem dX12_comeBack_70 : decode cX12_comeBack 70 = .ok (.getfield 65, 3) := by decide +kernel
theorem dX12_comeBack_73 : decode cX12_comeBack 73 = .ok (.iload_n 1, 1) := by decide +kernel
theorem dX12_comeBack_74 : decode cX12_comeBack 74 = .ok (.iaload, 1) := by decide +kernel
theorem dX12_comeBack_75 : decode cX12_comeBack 75 = .ok (.iastore, 1) := by decide +kernel
theorem dX12_comeBack_76 : decode cX12_comeBack 76 = .ok (.iinc 1 1, 3) := by decide +kernel
theorem dX12_comeBack_79 : decode cX12_comeBack 79 = .ok (.goto (-20), 3) := by decide +kernel
theorem dX12_comeBack_82 : decode cX12_comeBack 82 = .ok (.iconst 0, 1) := by decide +kernel
theorem dX12_comeBack_83 : decode cX12_comeBack 83 = .ok (.istore_n 1, 1) := by decide +kernel
theorem dX12_comeBack_84 : decode cX12_comeBack 84 = .ok (.iload_n 1, 1) := by decide +kernel
theorem dX12_comeBack_85 : decode cX12_comeBack 85 = .ok (.iconst 4, 1) := by decide +kernel
theorem dX12_comeBack_86 : decode cX12_comeBack 86 = .ok (.if_icmp .ge 21, 3) := by decide +kernel
theorem dX12_comeBack_89 : decode cX12_comeBack 89 = .ok (.aload_n 0, 1) := by decide +kernel
theorem dX12_comeBack_90 : decode cX12_comeBack 90 = .ok (.getfield 38, 3) := by decide +kernel
theorem dX12_comeBack_93 : decode cX12_comeBack 93 = .ok (.iload_n 1, 1) := by decide +kernel
theorem dX12_comeBack_94 : decode cX12_comeBack 94 = .ok (.aload_n 0, 1) := by decide +kernel
theorem dX12_comeBack_95 : decode cX12_comeBack 95 = .ok (.getfield 68, 3) := by decide +kernel
theorem dX12_comeBack_98 : decode cX12_comeBack 98 = .ok (.iload_n 1, 1) := by decide +kernel
theorem dX12_comeBack_99 : decode cX12_comeBack 99 = .ok (.iaload, 1) := by decide +kernel
theorem dX12_comeBack_100 : decode cX12_comeBack 100 = .ok (.iastore, 1) := by decide +kernel
theorem dX12_comeBack_101 : decode cX12_comeBack 101 = .ok (.iinc 1 1, 3) := by decide +kernel
theorem dX12_comeBack_104 : decode cX12_comeBack 104 = .ok (.goto (-20), 3) := by decide +kernel
theorem dX12_comeBack_107 : decode cX12_comeBack 107 = .ok (.aload_n 0, 1) := by decide +kernel
theorem dX12_comeBack_108 : decode cX12_comeBack 108 = .ok (.aload_n 0, 1) := by decide +kernel
theorem dX12_comeBack_109 : decode cX12_comeBack 109 = .ok (.getfield 476, 3) := by decide +kernel
theorem dX12_comeBack_112 : decode cX12_comeBack 112 = .ok (.putfield 124, 3) := by decide +kernel
theorem dX12_comeBack_115 : decode cX12_comeBack 115 = .ok (.aload_n 0, 1) := by decide +kernel
theorem dX12_comeBack_116 : decode cX12_comeBack 116 = .ok (.aload_n 0, 1) := by decide +kernel
theorem dX12_comeBack_117 : decode cX12_comeBack 117 = .ok (.getfield 479, 3) := by decide +kernel
theorem dX12_comeBack_120 : decode cX12_comeBack 120 = .ok (.putfield 366, 3) := by decide +kernel
theorem dX12_comeBack_123 : decode cX12_comeBack 123 = .ok (.aload_n 0, 1) := by decide +kernel
theorem dX12_comeBack_124 : decode cX12_comeBack 124 = .ok (.aload_n 0, 1) := by decide +kernel
theorem dX12_comeBack_125 : decode cX12_comeBack 125 = .ok (.getfield 482, 3) := by decide +kernel
theorem dX12_comeBack_128 : decode cX12_comeBack 128 = .ok (.putfield 357, 3) := by decide +kernel
theorem dX12_comeBack_131 : decode cX12_comeBack 131 = .ok (.aload_n 0, 1) := by decide +kernel
theorem dX12_comeBack_132 : decode cX12_comeBack 132 = .ok (.aload_n 0, 1) := by decide +kernel
theorem dX12_comeBack_133 : decode cX12_comeBack 133 = .ok (.getfield 485, 3) := by decide +kernel
theorem dX12_comeBack_136 : decode cX12_comeBack 136 = .ok (.putfield 295, 3) := by decide +kernel
theorem dX12_comeBack_139 : decode cX12_comeBack 139 = .ok (.aload_n 0, 1) := by decide +kernel
theorem dX12_comeBack_140 : decode cX12_comeBack 140 = .ok (.aload_n 0, 1) := by decide +kernel
theorem dX12_comeBack_141 : decode cX12_comeBack 141 = .ok (.getfield 488, 3) := by decide +kernel
theorem dX12_comeBack_144 : decode cX12_comeBack 144 = .ok (.putfield 134, 3) := by decide +kernel
theorem dX12_comeBack_147 : decode cX12_comeBack 147 = .ok (.return_, 1) := by decide +kernel
theorem dX12_noteDeed_0 : decode cX12_noteDeed 0 = .ok (.aload_n 0, 1) := by decide +kernel
theorem dX12_noteDeed_1 : decode cX12_noteDeed 1 = .ok (.getfield 491, 3) := by decide +kernel
theorem dX12_noteDeed_4 : decode cX12_noteDeed 4 = .ok (.aload_n 0, 1) := by decide +kernel
theorem dX12_noteDeed_5 : decode cX12_noteDeed 5 = .ok (.getfield 494, 3) := by decide +kernel
theorem dX12_noteDeed_8 : decode cX12_noteDeed 8 = .ok (.iadd, 1) := by decide +kernel
theorem dX12_noteDeed_9 : decode cX12_noteDeed 9 = .ok (.bipush 40, 2) := by decide +kernel
theorem dX12_noteDeed_11 : decode cX12_noteDeed 11 = .ok (.irem, 1) := by decide +kernel
theorem dX12_noteDeed_12 : decode cX12_noteDeed 12 = .ok (.istore_n 1, 1) := by decide +kernel
theorem dX12_noteDeed_13 : decode cX12_noteDeed 13 = .ok (.aload_n 0, 1) := by decide +kernel
theorem dX12_noteDeed_14 : decode cX12_noteDeed 14 = .ok (.getfield 494, 3) := by decide +kernel
theorem dX12_noteDeed_17 : decode cX12_noteDeed 17 = .ok (.bipush 40, 2) := by decide +kernel
theorem dX12_noteDeed_19 : decode cX12_noteDeed 19 = .ok (.if_icmp .ne 19, 3) := by decide +kernel
theorem dX12_noteDeed_22 : decode cX12_noteDeed 22 = .ok (.aload_n 0, 1) := by decide +kernel
theorem dX12_noteDeed_23 : decode cX12_noteDeed 23 = .ok (.aload_n 0, 1) := by decide +kernel
theorem dX12_noteDeed_24 : decode cX12_noteDeed 24 = .ok (.getfield 491, 3) := by decide +kernel
theorem dX12_noteDeed_27 : decode cX12_noteDeed 27 = .ok (.iconst 1, 1) := by decide +kernel
theorem dX12_noteDeed_28 : decode cX12_noteDeed 28 = .ok (.iadd, 1) := by decide +kernel
theorem dX12_noteDeed_29 : decode cX12_noteDeed 29 = .ok (.bipush 40, 2) := by decide +kernel
theorem dX12_noteDeed_31 : decode cX12_noteDeed 31 = .ok (.irem, 1) := by decide +kernel
theorem dX12_noteDeed_32 : decode cX12_noteDeed 32 = .ok (.putfield 491, 3) := by decide +kernel
theorem dX12_noteDeed_35 : decode cX12_noteDeed 35 = .ok (.goto 13, 3) := by decide +kernel
theorem dX12_noteDeed_38 : decode cX12_noteDeed 38 = .ok (.aload_n 0, 1) := by decide +kernel
theorem dX12_noteDeed_39 : decode cX12_noteDeed 39 = .ok (.dup, 1) := by decide +kernel
theorem dX12_noteDeed_40 : decode cX12_noteDeed 40 = .ok (.getfield 494, 3) := by decide +kernel
theorem dX12_noteDeed_43 : decode cX12_noteDeed 43 = .ok (.iconst 1, 1) := by decide +kernel
theorem dX12_noteDeed_44 : decode cX12_noteDeed 44 = .ok (.iadd, 1) := by decide +kernel
theorem dX12_noteDeed_45 : decode cX12_noteDeed 45 = .ok (.putfield 494, 3) := by decide +kernel
theorem dX12_noteDeed_48 : decode cX12_noteDeed 48 = .ok (.iconst 0, 1) := by decide +kernel
theorem dX12_noteDeed_49 : decode cX12_noteDeed 49 = .ok (.istore_n 2, 1) := by decide +kernel
theorem dX12_noteDeed_50 : decode cX12_noteDeed 50 = .ok (.iload_n 2, 1) := by decide +kernel
theorem dX12_noteDeed_51 : decode cX12_noteDeed 51 = .ok (.bipush 31, 2) := by decide +kernel
theorem dX12_noteDeed_53 : decode cX12_noteDeed 53 = .ok (.aload_n 0, 1) := by decide +kernel
theorem dX12_noteDeed_54 : decode cX12_noteDeed 54 = .ok (.getfield 476, 3) := by decide +kernel
theorem dX12_noteDeed_57 : decode cX12_noteDeed 57 = .ok (.imul, 1) := by decide +kernel
theorem dX12_noteDeed_58 : decode cX12_noteDeed 58 = .ok (.if_icmp .ge 31, 3) := by decide +kernel
theorem dX12_noteDeed_61 : decode cX12_noteDeed 61 = .ok (.aload_n 0, 1) := by decide +kernel
theorem dX12_noteDeed_62 : decode cX12_noteDeed 62 = .ok (.getfield 72, 3) := by decide +kernel
theorem dX12_noteDeed_65 : decode cX12_noteDeed 65 = .ok (.sipush 1240, 3) := by decide +kernel
theorem dX12_noteDeed_68 : decode cX12_noteDeed 68 = .ok (.iload_n 1, 1) := by decide +kernel
theorem dX12_noteDeed_69 : decode cX12_noteDeed 69 = .ok (.imul, 1) := by decide +kernel
theorem dX12_noteDeed_70 : decode cX12_noteDeed 70 = .ok (.iload_n 2, 1) := by decide +kernel
theorem dX12_noteDeed_71 : decode cX12_noteDeed 71 = .ok (.iadd, 1) := by decide +kernel
theorem dX12_noteDeed_72 : decode cX12_noteDeed 72 = .ok (.aload_n 0, 1) := by decide +kernel
theorem dX12_noteDeed_73 : decode cX12_noteDeed 73 = .ok (.getfield 23, 3) := by decide +kernel
theorem dX12_noteDeed_76 : decode cX12_noteDeed 76 = .ok (.sipush 14880, 3) := by decide +kernel
theorem dX12_noteDeed_79 : decode cX12_noteDeed 79 = .ok (.iload_n 2, 1) := by decide +kernel
theorem dX12_noteDeed_80 : decode cX12_noteDeed 80 = .ok (.iadd, 1) := by decide +kernel
theorem dX12_noteDeed_81 : decode cX12_noteDeed 81 = .ok (.iaload, 1) := by decide +kernel
theorem dX12_noteDeed_82 : decode cX12_noteDeed 82 = .ok (.iastore, 1) := by decide +kernel
theorem dX12_noteDeed_83 : decode cX12_noteDeed 83 = .ok (.iinc 2 1, 3) := by decide +kernel
theorem dX12_noteDeed_86 : decode cX12_noteDeed 86 = .ok (.goto (-36), 3) := by decide +kernel
theorem dX12_noteDeed_89 : decode cX12_noteDeed 89 = .ok (.iconst 0, 1) := by decide +kernel
theorem dX12_noteDeed_90 : decode cX12_noteDeed 90 = .ok (.istore_n 2, 1) := by decide +kernel
theorem dX12_noteDeed_91 : decode cX12_noteDeed 91 = .ok (.iload_n 2, 1) := by decide +kernel
theorem dX12_noteDeed_92 : decode cX12_noteDeed 92 = .ok (.aload_n 0, 1) := by decide +kernel
theorem dX12_noteDeed_93 : decode cX12_noteDeed 93 = .ok (.getfield 476, 3) := by decide +kernel
theorem dX12_noteDeed_96 : decode cX12_noteDeed 96 = .ok (.if_icmp .ge 26, 3) := by decide +kernel
theorem dX12_noteDeed_99 : decode cX12_noteDeed 99 = .ok (.aload_n 0, 1) := by decide +kernel
theorem dX12_noteDeed_100 : decode cX12_noteDeed 100 = .ok (.getfield 75, 3) := by decide +kernel
theorem dX12_noteDeed_103 : decode cX12_noteDeed 103 = .ok (.bipush 40, 2) := by decide +kernel
theorem dX12_noteDeed_105 : decode cX12_noteDeed 105 = .ok (.iload_n 1, 1) := by decide +kernel
theorem dX12_noteDeed_106 : decode cX12_noteDeed 106 = .ok (.imul, 1) := by decide +kernel
theorem dX12_noteDeed_107 : decode cX12_noteDeed 107 = .ok (.iload_n 2, 1) := by decide +kernel
theorem dX12_noteDeed_108 : decode cX12_noteDeed 108 = .ok (.iadd, 1) := by decide +kernel
theorem dX12_noteDeed_109 : decode cX12_noteDeed 109 = .ok (.aload_n 0, 1) := by decide +kernel
theorem dX12_noteDeed_110 : decode cX12_noteDeed 110 = .ok (.getfield 62, 3) := by decide +kernel
theorem dX12_noteDeed_113 : decode cX12_noteDeed 113 = .ok (.iload_n 2, 1) := by decide +kernel
theorem dX12_noteDeed_114 : decode cX12_noteDeed 114 = .ok (.iaload, 1) := by decide +kernel
theorem dX12_noteDeed_115 : decode cX12_noteDeed 115 = .ok (.iastore, 1) := by decide +kernel
theorem dX12_noteDeed_116 : decode cX12_noteDeed 116 = .ok (.iinc 2 1, 3) := by decide +kernel
theorem dX12_noteDeed_119 : decode cX12_noteDeed 119 = .ok (.goto (-28), 3) := by decide +kernel
theorem dX12_noteDeed_122 : decode cX12_noteDeed 122 = .ok (.iconst 0, 1) := by decide +kernel
theorem dX12_noteDeed_123 : decode cX12_noteDeed 123 = .ok (.istore_n 2, 1) := by decide +kernel
theorem dX12_noteDeed_124 : decode cX12_noteDeed 124 = .ok (.iload_n 2, 1) := by decide +kernel
theorem dX12_noteDeed_125 : decode cX12_noteDeed 125 = .ok (.iconst 5, 1) := by decide +kernel
theorem dX12_noteDeed_126 : decode cX12_noteDeed 126 = .ok (.if_icmp .ge 25, 3) := by decide +kernel
theorem dX12_noteDeed_129 : decode cX12_noteDeed 129 = .ok (.aload_n 0, 1) := by decide +kernel
theorem dX12_noteDeed_130 : decode cX12_noteDeed 130 = .ok (.getfield 78, 3) := by decide +kernel
theorem dX12_noteDeed_133 : decode cX12_noteDeed 133 = .ok (.iconst 5, 1) := by decide +kernel
theorem dX12_noteDeed_134 : decode cX12_noteDeed 134 = .ok (.iload_n 1, 1) := by decide +kernel
theorem dX12_noteDeed_135 : decode cX12_noteDeed 135 = .ok (.imul, 1) := by decide +kernel
theorem dX12_noteDeed_136 : decode cX12_noteDeed 136 = .ok (.iload_n 2, 1) := by decide +kernel
theorem dX12_noteDeed_137 : decode cX12_noteDeed 137 = .ok (.iadd, 1) := by decide +kernel
theorem dX12_noteDeed_138 : decode cX12_noteDeed 138 = .ok (.aload_n 0, 1) := by decide +kernel
theorem dX12_noteDeed_139 : decode cX12_noteDeed 139 = .ok (.getfield 65, 3) := by decide +kernel
theorem dX12_noteDeed_142 : decode cX12_noteDeed 142 = .ok (.iload_n 2, 1) := by decide +kernel
theorem dX12_noteDeed_143 : decode cX12_noteDeed 143 = .ok (.iaload, 1) := by decide +kernel
theorem dX12_noteDeed_144 : decode cX12_noteDeed 144 = .ok (.iastore, 1) := by decide +kernel
theorem dX12_noteDeed_145 : decode cX12_noteDeed 145 = .ok (.iinc 2 1, 3) := by decide +kernel
theorem dX12_noteDeed_148 : decode cX12_noteDeed 148 = .ok (.goto (-24), 3) := by decide +kernel
theorem dX12_noteDeed_151 : decode cX12_noteDeed 151 = .ok (.aload_n 0, 1) := by decide +kernel
theorem dX12_noteDeed_152 : decode cX12_noteDeed 152 = .ok (.getfield 81, 3) := by decide +kernel
theorem dX12_noteDeed_155 : decode cX12_noteDeed 155 = .ok (.iload_n 1, 1) := by decide +kernel
theorem dX12_noteDeed_156 : decode cX12_noteDeed 156 = .ok (.aload_n 0, 1) := by decide +kernel
theorem dX12_noteDeed_157 : decode cX12_noteDeed 157 = .ok (.getfield 476, 3) := by decide +kernel
theorem dX12_noteDeed_160 : decode cX12_noteDeed 160 = .ok (.iastore, 1) := by decide +kernel
theorem dX12_noteDeed_161 : decode cX12_noteDeed 161 = .ok (.aload_n 0, 1) := by decide +kernel
theorem dX12_noteDeed_162 : decode cX12_noteDeed 162 = .ok (.getfield 84, 3) := by decide +kernel
theorem dX12_noteDeed_165 : decode cX12_noteDeed 165 = .ok (.iload_n 1, 1) := by decide +kernel
theorem dX12_noteDeed_166 : decode cX12_noteDeed 166 = .ok (.aload_n 0, 1) := by decide +kernel
theorem dX12_noteDeed_167 : decode cX12_noteDeed 167 = .ok (.getfield 485, 3) := by decide +kernel
theorem dX12_noteDeed_170 : decode cX12_noteDeed 170 = .ok (.iastore, 1) := by decide +kernel
theorem dX12_noteDeed_171 : decode cX12_noteDeed 171 = .ok (.aload_n 0, 1) := by decide +kernel
theorem dX12_noteDeed_172 : decode cX12_noteDeed 172 = .ok (.getfield 87, 3) := by decide +kernel
theorem dX12_noteDeed_175 : decode cX12_noteDeed 175 = .ok (.iload_n 1, 1) := by decide +kernel
theorem dX12_noteDeed_176 : decode cX12_noteDeed 176 = .ok (.aload_n 0, 1) := by decide +kernel
theorem dX12_noteDeed_177 : decode cX12_noteDeed 177 = .ok (.getfield 497, 3) := by decide +kernel
theorem dX12_noteDeed_180 : decode cX12_noteDeed 180 = .ok (.iastore, 1) := by decide +kernel
theorem dX12_noteDeed_181 : decode cX12_noteDeed 181 = .ok (.return_, 1) := by decide +kernel
theorem dX12_latestDeed_0 : decode cX12_latestDeed 0 = .ok (.aload_n 0, 1) := by decide +kernel
theorem dX12_latestDeed_1 : decode cX12_latestDeed 1 = .ok (.getfield 491, 3) := by decide +kernel
theorem dX12_latestDeed_4 : decode cX12_latestDeed 4 = .ok (.aload_n 0, 1) := by decide +kernel
theorem dX12_latestDeed_5 : decode cX12_latestDeed 5 = .ok (.getfield 494, 3) := by decide +kernel
theorem dX12_latestDeed_8 : decode cX12_latestDeed 8 = .ok (.iadd, 1) := by decide +kernel
theorem dX12_latestDeed_9 : decode cX12_latestDeed 9 = .ok (.iconst 1, 1) := by decide +kernel
theorem dX12_latestDeed_10 : decode cX12_latestDeed 10 = .ok (.isub, 1) := by decide +kernel
theorem dX12_latestDeed_11 : decode cX12_latestDeed 11 = .ok (.bipush 40, 2) := by decide +kernel
theorem dX12_latestDeed_13 : decode cX12_latestDeed 13 = .ok (.irem, 1) := by decide +kernel
theorem dX12_latestDeed_14 : decode cX12_latestDeed 14 = .ok (.ireturn, 1) := by decide +kernel
theorem dX12_undoLatest_0 : decode cX12_undoLatest 0 = .ok (.aload_n 0, 1) := by decide +kernel
theorem dX12_undoLatest_1 : decode cX12_undoLatest 1 = .ok (.invokevirtual 500, 3) := by decide +kernel
theorem dX12_undoLatest_4 : decode cX12_undoLatest 4 = .ok (.istore_n 1, 1) := by decide +kernel
theorem dX12_undoLatest_5 : decode cX12_undoLatest 5 = .ok (.aload_n 0, 1) := by decide +kernel
theorem dX12_undoLatest_6 : decode cX12_undoLatest 6 = .ok (.dup, 1) := by decide +kernel
theorem dX12_undoLatest_7 : decode cX12_undoLatest 7 = .ok (.getfield 494, 3) := by decide +kernel
theorem dX12_undoLatest_10 : decode cX12_undoLatest 10 = .ok (.iconst 1, 1) := by decide +kernel
theorem dX12_undoLatest_11 : decode cX12_undoLatest 11 = .ok (.isub, 1) := by decide +kernel
theorem dX12_undoLatest_12 : decode cX12_undoLatest 12 = .ok (.putfield 494, 3) := by decide +kernel
theorem dX12_undoLatest_15 : decode cX12_undoLatest 15 = .ok (.aload_n 0, 1) := by decide +kernel
theorem dX12_undoLatest_16 : decode cX12_undoLatest 16 = .ok (.aload_n 0, 1) := by decide +kernel
theorem dX12_undoLatest_17 : decode cX12_undoLatest 17 = .ok (.getfield 81, 3) := by decide +kernel
theorem dX12_undoLatest_20 : decode cX12_undoLatest 20 = .ok (.iload_n 1, 1) := by decide +kernel
theorem dX12_undoLatest_21 : decode cX12_undoLatest 21 = .ok (.iaload, 1) := by decide +kernel
theorem dX12_undoLatest_22 : decode cX12_undoLatest 22 = .ok (.putfield 124, 3) := by decide +kernel
theorem dX12_undoLatest_25 : decode cX12_undoLatest 25 = .ok (.aload_n 0, 1) := by decide +kernel
theorem dX12_undoLatest_26 : decode cX12_undoLatest 26 = .ok (.aload_n 0, 1) := by decide +kernel
theorem dX12_undoLatest_27 : decode cX12_undoLatest 27 = .ok (.getfield 84, 3) := by decide +kernel
theorem dX12_undoLatest_30 : decode cX12_undoLatest 30 = .ok (.iload_n 1, 1) := by decide +kernel
theorem dX12_undoLatest_31 : decode cX12_undoLatest 31 = .ok (.iaload, 1) := by decide +kernel
theorem dX12_undoLatest_32 : decode cX12_undoLatest 32 = .ok (.putfield 295, 3) := by decide +kernel
theorem dX12_undoLatest_35 : decode cX12_undoLatest 35 = .ok (.iconst 0, 1) := by decide +kernel
theorem dX12_undoLatest_36 : decode cX12_undoLatest 36 = .ok (.istore_n 2, 1) := by decide +kernel
theorem dX12_undoLatest_37 : decode cX12_undoLatest 37 = .ok (.iload_n 2, 1) := by decide +kernel
theorem dX12_undoLatest_38 : decode cX12_undoLatest 38 = .ok (.bipush 31, 2) := by decide +kernel
theorem dX12_undoLatest_40 : decode cX12_undoLatest 40 = .ok (.aload_n 0, 1) := by decide +kernel
theorem dX12_undoLatest_41 : decode cX12_undoLatest 41 = .ok (.getfield 124, 3) := by decide +kernel
theorem dX12_undoLatest_44 : decode cX12_undoLatest 44 = .ok (.imul, 1) := by decide +kernel
theorem dX12_undoLatest_45 : decode cX12_undoLatest 45 = .ok (.if_icmp .ge 27, 3) := by decide +kernel
theorem dX12_undoLatest_48 : decode cX12_undoLatest 48 = .ok (.aload_n 0, 1) := by decide +kernel
theorem dX12_undoLatest_49 : decode cX12_undoLatest 49 = .ok (.getfield 23, 3) := by decide +kernel
theorem dX12_undoLatest_52 : decode cX12_undoLatest 52 = .ok (.iload_n 2, 1) := by decide +kernel
theorem dX12_undoLatest_53 : decode cX12_undoLatest 53 = .ok (.aload_n 0, 1) := by decide +kernel
theorem dX12_undoLatest_54 : decode cX12_undoLatest 54 = .ok (.getfield 72, 3) := by decide +kernel
theorem dX12_undoLatest_57 : decode cX12_undoLatest 57 = .ok (.sipush 1240, 3) := by decide +kernel
theorem dX12_undoLatest_60 : decode cX12_undoLatest 60 = .ok (.iload_n 1, 1) := by decide +kernel
theorem dX12_undoLatest_61 : decode cX12_undoLatest 61 = .ok (.imul, 1) := by decide +kernel
theorem dX12_undoLatest_62 : decode cX12_undoLatest 62 = .ok (.iload_n 2, 1) := by decide +kernel
theorem dX12_undoLatest_63 : decode cX12_undoLatest 63 = .ok (.iadd, 1) := by decide +kernel
theorem dX12_undoLatest_64 : decode cX12_undoLatest 64 = .ok (.iaload, 1) := by decide +kernel
theorem dX12_undoLatest_65 : decode cX12_undoLatest 65 = .ok (.iastore, 1) := by decide +kernel
theorem dX12_undoLatest_66 : decode cX12_undoLatest 66 = .ok (.iinc 2 1, 3) := by decide +kernel
theorem dX12_undoLatest_69 : decode cX12_undoLatest 69 = .ok (.goto (-32), 3) := by decide +kernel
theorem dX12_undoLatest_72 : decode cX12_undoLatest 72 = .ok (.iconst 0, 1) := by decide +kernel
theorem dX12_undoLatest_73 : decode cX12_undoLatest 73 = .ok (.istore_n 2, 1) := by decide +kernel
theorem dX12_undoLatest_74 : decode cX12_undoLatest 74 = .ok (.iload_n 2, 1) := by decide +kernel
theorem dX12_undoLatest_75 : decode cX12_undoLatest 75 = .ok (.aload_n 0, 1) := by decide +kernel
theorem dX12_undoLatest_76 : decode cX12_undoLatest 76 = .ok (.getfield 124, 3) := by decide +kernel
theorem dX12_undoLatest_79 : decode cX12_undoLatest 79 = .ok (.if_icmp .ge 26, 3) := by decide +kernel
theorem dX12_undoLatest_82 : decode cX12_undoLatest 82 = .ok (.aload_n 0, 1) := by decide +kernel
theorem dX12_undoLatest_83 : decode cX12_undoLatest 83 = .ok (.getfield 26, 3) := by decide +kernel
theorem dX12_undoLatest_86 : decode cX12_undoLatest 86 = .ok (.iload_n 2, 1) := by decide +kernel
theorem dX12_undoLatest_87 : decode cX12_undoLatest 87 = .ok (.aload_n 0, 1) := by decide +kernel
theorem dX12_undoLatest_88 : decode cX12_undoLatest 88 = .ok (.getfield 75, 3) := by decide +kernel
theorem dX12_undoLatest_91 : decode cX12_undoLatest 91 = .ok (.bipush 40, 2) := by decide +kernel
theorem dX12_undoLatest_93 : decode cX12_undoLatest 93 = .ok (.iload_n 1, 1) := by decide +kernel
theorem dX12_undoLatest_94 : decode cX12_undoLatest 94 = .ok (.imul, 1) := by decide +kernel
theorem dX12_undoLatest_95 : decode cX12_undoLatest 95 = .ok (.iload_n 2, 1) := by decide +kernel
theorem dX12_undoLatest_96 : decode cX12_undoLatest 96 = .ok (.iadd, 1) := by decide +kernel
theorem dX12_undoLatest_97 : decode cX12_undoLatest 97 = .ok (.iaload, 1) := by decide +kernel
theorem dX12_undoLatest_98 : decode cX12_undoLatest 98 = .ok (.iastore, 1) := by decide +kernel
theorem dX12_undoLatest_99 : decode cX12_undoLatest 99 = .ok (.iinc 2 1, 3) := by decide +kernel
theorem dX12_undoLatest_102 : decode cX12_undoLatest 102 = .ok (.goto (-28), 3) := by decide +kernel
theorem dX12_undoLatest_105 : decode cX12_undoLatest 105 = .ok (.iconst 0, 1) := by decide +kernel
theorem dX12_undoLatest_106 : decode cX12_undoLatest 106 = .ok (.istore_n 2, 1) := by decide +kernel
theorem dX12_undoLatest_107 : decode cX12_undoLatest 107 = .ok (.iload_n 2, 1) := by decide +kernel
theorem dX12_undoLatest_108 : decode cX12_undoLatest 108 = .ok (.iconst 5, 1) := by decide +kernel
theorem dX12_undoLatest_109 : decode cX12_undoLatest 109 = .ok (.if_icmp .ge 25, 3) := by decide +kernel
theorem dX12_undoLatest_112 : decode cX12_undoLatest 112 = .ok (.aload_n 0, 1) := by decide +kernel
theorem dX12_undoLatest_113 : decode cX12_undoLatest 113 = .ok (.getfield 35, 3) := by decide +kernel
theorem dX12_undoLatest_116 : decode cX12_undoLatest 116 = .ok (.iload_n 2, 1) := by decide +kernel
theorem dX12_undoLatest_117 : decode cX12_undoLatest 117 = .ok (.aload_n 0, 1) := by decide +kernel
theorem dX12_undoLatest_118 : decode cX12_undoLatest 118 = .ok (.getfield 78, 3) := by decide +kernel
theorem dX12_undoLatest_121 : decode cX12_undoLatest 121 = .ok (.iconst 5, 1) := by decide +kernel
theorem dX12_undoLatest_122 : decode cX12_undoLatest 122 = .ok (.iload_n 1, 1) := by decide +kernel
theorem dX12_undoLatest_123 : decode cX12_undoLatest 123 = .ok (.imul, 1) := by decide +kernel
theorem dX12_undoLatest_124 : decode cX12_undoLatest 124 = .ok (.iload_n 2, 1) := by decide +kernel
theorem dX12_undoLatest_125 : decode cX12_undoLatest 125 = .ok (.iadd, 1) := by decide +kernel
theorem dX12_undoLatest_126 : decode cX12_undoLatest 126 = .ok (.iaload, 1) := by decide +kernel
theorem dX12_undoLatest_127 : decode cX12_undoLatest 127 = .ok (.iastore, 1) := by decide +kernel
theorem dX12_undoLatest_128 : decode cX12_undoLatest 128 = .ok (.iinc 2 1, 3) := by decide +kernel
theorem dX12_undoLatest_131 : decode cX12_undoLatest 131 = .ok (.goto (-24), 3) := by decide +kernel
theorem dX12_undoLatest_134 : decode cX12_undoLatest 134 = .ok (.return_, 1) := by decide +kernel
theorem dX12_behindLabel_0 : decode cX12_behindLabel 0 = .ok (.iconst 0, 1) := by decide +kernel
theorem dX12_behindLabel_1 : decode cX12_behindLabel 1 = .ok (.istore_n 2, 1) := by decide +kernel
theorem dX12_behindLabel_2 : decode cX12_behindLabel 2 = .ok (.iload_n 2, 1) := by decide +kernel
theorem dX12_behindLabel_3 : decode cX12_behindLabel 3 = .ok (.aload_n 0, 1) := by decide +kernel
theorem dX12_behindLabel_4 : decode cX12_behindLabel 4 = .ok (.getfield 146, 3) := by decide +kernel
theorem dX12_behindLabel_7 : decode cX12_behindLabel 7 = .ok (.if_icmp .ge 59, 3) := by decide +kernel
theorem dX12_behindLabel_10 : decode cX12_behindLabel 10 = .ok (.aload_n 0, 1) := by decide +kernel
theorem dX12_behindLabel_11 : decode cX12_behindLabel 11 = .ok (.iload_n 2, 1) := by decide +kernel
theorem dX12_behindLabel_12 : decode cX12_behindLabel 12 = .ok (.iconst 0, 1) := by decide +kernel
theorem dX12_behindLabel_13 : decode cX12_behindLabel 13 = .ok (.invokevirtual 470, 3) := by decide +kernel
theorem dX12_behindLabel_16 : decode cX12_behindLabel 16 = .ok (.istore_n 3, 1) := by decide +kernel
theorem dX12_behindLabel_17 : decode cX12_behindLabel 17 = .ok (.aload_n 0, 1) := by decide +kernel
theorem dX12_behindLabel_18 : decode cX12_behindLabel 18 = .ok (.getfield 44, 3) := by decide +kernel
theorem dX12_behindLabel_21 : decode cX12_behindLabel 21 = .ok (.iload_n 2, 1) := by decide +kernel
theorem dX12_behindLabel_22 : decode cX12_behindLabel 22 = .ok (.iaload, 1) := by decide +kernel
theorem dX12_behindLabel_23 : decode cX12_behindLabel 23 = .ok (.bipush 58, 2) := by decide +kernel
theorem dX12_behindLabel_25 : decode cX12_behindLabel 25 = .ok (.if_icmp .ne 34, 3) := by decide +kernel
theorem dX12_behindLabel_28 : decode cX12_behindLabel 28 = .ok (.aload_n 0, 1) := by decide +kernel
theorem dX12_behindLabel_29 : decode cX12_behindLabel 29 = .ok (.getfield 44, 3) := by decide +kernel
theorem dX12_behindLabel_32 : decode cX12_behindLabel 32 = .ok (.iload_n 2, 1) := by decide +kernel
theorem dX12_behindLabel_33 : decode cX12_behindLabel 33 = .ok (.iconst 1, 1) := by decide +kernel
theorem dX12_behindLabel_34 : decode cX12_behindLabel 34 = .ok (.iadd, 1) := by decide +kernel
theorem dX12_behindLabel_35 : decode cX12_behindLabel 35 = .ok (.iaload, 1) := by decide +kernel
theorem dX12_behindLabel_36 : decode cX12_behindLabel 36 = .ok (.iload_n 1, 1) := by decide +kernel
theorem dX12_behindLabel_37 : decode cX12_behindLabel 37 = .ok (.if_icmp .ne 22, 3) := by decide +kernel
theorem dX12_behindLabel_40 : decode cX12_behindLabel 40 = .ok (.iload_n 3, 1) := by decide +kernel
theorem dX12_behindLabel_41 : decode cX12_behindLabel 41 = .ok (.aload_n 0, 1) := by decide +kernel
theorem dX12_behindLabel_42 : decode cX12_behindLabel 42 = .ok (.getfield 146, 3) := by decide +kernel
theorem dX12_behindLabel_45 : decode cX12_behindLabel 45 = .ok (.if_icmp .ge 9, 3) := by decide +kernel
theorem dX12_behindLabel_48 : decode cX12_behindLabel 48 = .ok (.iload_n 3, 1) := by decide +kernel
theorem dX12_behindLabel_49 : decode cX12_behindLabel 49 = .ok (.iconst 1, 1) := by decide +kernel
theorem dX12_behindLabel_50 : decode cX12_behindLabel 50 = .ok (.iadd, 1) := by decide +kernel
theorem dX12_behindLabel_51 : decode cX12_behindLabel 51 = .ok (.goto 7, 3) := by decide +kernel
theorem dX12_behindLabel_54 : decode cX12_behindLabel 54 = .ok (.aload_n 0, 1) := by decide +kernel
theorem dX12_behindLabel_55 : decode cX12_behindLabel 55 = .ok (.getfield 146, 3) := by decide +kernel
theorem dX12_behindLabel_58 : decode cX12_behindLabel 58 = .ok (.ireturn, 1) := by decide +kernel
theorem dX12_behindLabel_59 : decode cX12_behindLabel 59 = .ok (.iload_n 3, 1) := by decide +kernel
theorem dX12_behindLabel_60 : decode cX12_behindLabel 60 = .ok (.iconst 1, 1) := by decide +kernel
theorem dX12_behindLabel_61 : decode cX12_behindLabel 61 = .ok (.iadd, 1) := by decide +kernel
theorem dX12_behindLabel_62 : decode cX12_behindLabel 62 = .ok (.istore_n 2, 1) := by decide +kernel
theorem dX12_behindLabel_63 : decode cX12_behindLabel 63 = .ok (.goto (-61), 3) := by decide +kernel
theorem dX12_behindLabel_66 : decode cX12_behindLabel 66 = .ok (.iconst (-1), 1) := by decide +kernel
theorem dX12_behindLabel_67 : decode cX12_behindLabel 67 = .ok (.ireturn, 1) := by decide +kernel
theorem dX12_jump_0 : decode cX12_jump 0 = .ok (.iload_n 1, 1) := by decide +kernel
theorem dX12_jump_1 : decode cX12_jump 1 = .ok (.iconst 1, 1) := by decide +kernel
theorem dX12_jump_2 : decode cX12_jump 2 = .ok (.iadd, 1) := by decide +kernel
theorem dX12_jump_3 : decode cX12_jump 3 = .ok (.aload_n 0, 1) := by decide +kernel
theorem dX12_jump_4 : decode cX12_jump 4 = .ok (.getfield 146, 3) := by decide +kernel
theorem dX12_jump_7 : decode cX12_jump 7 = .ok (.if_icmp .ge 21, 3) := by decide +kernel
theorem dX12_jump_10 : decode cX12_jump 10 = .ok (.aload_n 0, 1) := by decide +kernel
theorem dX12_jump_11 : decode cX12_jump 11 = .ok (.getfield 44, 3) := by decide +kernel
theorem dX12_jump_14 : decode cX12_jump 14 = .ok (.iload_n 1, 1) := by decide +kernel
theorem dX12_jump_15 : decode cX12_jump 15 = .ok (.iconst 1, 1) := by decide +kernel
theorem dX12_jump_16 : decode cX12_jump 16 = .ok (.iadd, 1) := by decide +kernel
theorem dX12_jump_17 : decode cX12_jump 17 = .ok (.iaload, 1) := by decide +kernel
theorem dX12_jump_18 : decode cX12_jump 18 = .ok (.invokestatic 224, 3) := by decide +kernel
theorem dX12_jump_21 : decode cX12_jump 21 = .ok (.ifCond .eq 7, 3) := by decide +kernel
theorem dX12_jump_24 : decode cX12_jump 24 = .ok (.iconst 1, 1) := by decide +kernel
theorem dX12_jump_25 : decode cX12_jump 25 = .ok (.goto 4, 3) := by decide +kernel
theorem dX12_jump_28 : decode cX12_jump 28 = .ok (.iconst 0, 1) := by decide +kernel
theorem dX12_jump_29 : decode cX12_jump 29 = .ok (.istore_n 2, 1) := by decide +kernel
theorem dX12_jump_30 : decode cX12_jump 30 = .ok (.aload_n 0, 1) := by decide +kernel
theorem dX12_jump_31 : decode cX12_jump 31 = .ok (.iload_n 2, 1) := by decide +kernel
theorem dX12_jump_32 : decode cX12_jump 32 = .ok (.ifCond .eq 18, 3) := by decide +kernel
theorem dX12_jump_35 : decode cX12_jump 35 = .ok (.aload_n 0, 1) := by decide +kernel
theorem dX12_jump_36 : decode cX12_jump 36 = .ok (.aload_n 0, 1) := by decide +kernel
theorem dX12_jump_37 : decode cX12_jump 37 = .ok (.getfield 44, 3) := by decide +kernel
theorem dX12_jump_40 : decode cX12_jump 40 = .ok (.iload_n 1, 1) := by decide +kernel
theorem dX12_jump_41 : decode cX12_jump 41 = .ok (.iconst 1, 1) := by decide +kernel
theorem dX12_jump_42 : decode cX12_jump 42 = .ok (.iadd, 1) := by decide +kernel
theorem dX12_jump_43 : decode cX12_jump 43 = .ok (.iaload, 1) := by decide +kernel
theorem dX12_jump_44 : decode cX12_jump 44 = .ok (.invokevirtual 503, 3) := by decide +kernel
theorem dX12_jump_47 : decode cX12_jump 47 = .ok (.goto 7, 3) := by decide +kernel
theorem dX12_jump_50 : decode cX12_jump 50 = .ok (.aload_n 0, 1) := by decide +kernel
theorem dX12_jump_51 : decode cX12_jump 51 = .ok (.getfield 146, 3) := by decide +kernel
theorem dX12_jump_54 : decode cX12_jump 54 = .ok (.putfield 506, 3) := by decide +kernel
theorem dX12_jump_57 : decode cX12_jump 57 = .ok (.aload_n 0, 1) := by decide +kernel
theorem dX12_jump_58 : decode cX12_jump 58 = .ok (.getfield 506, 3) := by decide +kernel
theorem dX12_jump_61 : decode cX12_jump 61 = .ok (.ifCond .ge 8, 3) := by decide +kernel
theorem dX12_jump_64 : decode cX12_jump 64 = .ok (.bipush 6, 2) := by decide +kernel
theorem dX12_jump_66 : decode cX12_jump 66 = .ok (.goto 4, 3) := by decide +kernel
theorem dX12_jump_69 : decode cX12_jump 69 = .ok (.iconst 0, 1) := by decide +kernel
theorem dX12_jump_70 : decode cX12_jump 70 = .ok (.ireturn, 1) := by decide +kernel
theorem dX12_steer_0 : decode cX12_steer 0 = .ok (.aload_n 0, 1) := by decide +kernel
theorem dX12_steer_1 : decode cX12_steer 1 = .ok (.getfield 203, 3) := by decide +kernel
theorem dX12_steer_4 : decode cX12_steer 4 = .ok (.ifCond .le 38, 3) := by decide +kernel
theorem dX12_steer_7 : decode cX12_steer 7 = .ok (.aload_n 0, 1) := by decide +kernel
theorem dX12_steer_8 : decode cX12_steer 8 = .ok (.invokevirtual 461, 3) := by decide +kernel
theorem dX12_steer_11 : decode cX12_steer 11 = .ok (.istore_n 2, 1) := by decide +kernel
theorem dX12_steer_12 : decode cX12_steer 12 = .ok (.iload_n 2, 1) := by decide +kernel
theorem dX12_steer_13 : decode cX12_steer 13 = .ok (.ifCond .le 5, 3) := by decide +kernel
theorem dX12_steer_16 : decode cX12_steer 16 = .ok (.iload_n 2, 1) := by decide +kernel
theorem dX12_steer_17 : decode cX12_steer 17 = .ok (.ireturn, 1) := by decide +kernel
theorem dX12_steer_18 : decode cX12_steer 18 = .ok (.aload_n 0, 1) := by decide +kernel
theorem dX12_steer_19 : decode cX12_steer 19 = .ok (.getfield 295, 3) := by decide +kernel
theorem dX12_steer_22 : decode cX12_steer 22 = .ok (.aload_n 0, 1) := by decide +kernel
theorem dX12_steer_23 : decode cX12_steer 23 = .ok (.getfield 317, 3) := by decide +kernel
theorem dX12_steer_26 : decode cX12_steer 26 = .ok (.if_icmp .lt 14, 3) := by decide +kernel
theorem dX12_steer_29 : decode cX12_steer 29 = .ok (.aload_n 0, 1) := by decide +kernel
theorem dX12_steer_30 : decode cX12_steer 30 = .ok (.getfield 295, 3) := by decide +kernel
theorem dX12_steer_33 : decode cX12_steer 33 = .ok (.aload_n 0, 1) := by decide +kernel
theorem dX12_steer_34 : decode cX12_steer 34 = .ok (.getfield 320, 3) := by decide +kernel
theorem dX12_steer_37 : decode cX12_steer 37 = .ok (.if_icmp .le 5, 3) := by decide +kernel
theorem dX12_steer_40 : decode cX12_steer 40 = .ok (.iconst 0, 1) := by decide +kernel
theorem dX12_steer_41 : decode cX12_steer 41 = .ok (.ireturn, 1) := by decide +kernel
theorem dX12_steer_42 : decode cX12_steer 42 = .ok (.aload_n 0, 1) := by decide +kernel
theorem dX12_steer_43 : decode cX12_steer 43 = .ok (.getfield 44, 3) := by decide +kernel
theorem dX12_steer_46 : decode cX12_steer 46 = .ok (.iload_n 1, 1) := by decide +kernel
theorem dX12_steer_47 : decode cX12_steer 47 = .ok (.iaload, 1) := by decide +kernel
theorem dX12_steer_48 : decode cX12_steer 48 = .ok (.istore_n 2, 1) := by decide +kernel
theorem dX12_steer_49 : decode cX12_steer 49 = .ok (.iload_n 2, 1) := by decide +kernel
theorem dX12_steer_50 : decode cX12_steer 50 = .ok (.bipush 113, 2) := by decide +kernel
theorem dX12_steer_52 : decode cX12_steer 52 = .ok (.if_icmp .ne 11, 3) := by decide +kernel
theorem dX12_steer_55 : decode cX12_steer 55 = .ok (.aload_n 0, 1) := by decide +kernel
theorem dX12_steer_56 : decode cX12_steer 56 = .ok (.aload_n 0, 1) := by decide +kernel
theorem dX12_steer_57 : decode cX12_steer 57 = .ok (.getfield 146, 3) := by decide +kernel
theorem dX12_steer_60 : decode cX12_steer 60 = .ok (.putfield 506, 3) := by decide +kernel
theorem dX12_steer_63 : decode cX12_steer 63 = .ok (.iload_n 2, 1) := by decide +kernel
theorem dX12_steer_64 : decode cX12_steer 64 = .ok (.bipush 78, 2) := by decide +kernel
theorem dX12_steer_66 : decode cX12_steer 66 = .ok (.if_icmp .ne 26, 3) := by decide +kernel
theorem dX12_steer_69 : decode cX12_steer 69 = .ok (.aload_n 0, 1) := by decide +kernel
theorem dX12_steer_70 : decode cX12_steer 70 = .ok (.getfield 295, 3) := by decide +kernel
theorem dX12_steer_73 : decode cX12_steer 73 = .ok (.aload_n 0, 1) := by decide +kernel
theorem dX12_steer_74 : decode cX12_steer 74 = .ok (.getfield 124, 3) := by decide +kernel
theorem dX12_steer_77 : decode cX12_steer 77 = .ok (.if_icmp .ne 5, 3) := by decide +kernel
theorem dX12_steer_80 : decode cX12_steer 80 = .ok (.iconst 1, 1) := by decide +kernel
theorem dX12_steer_81 : decode cX12_steer 81 = .ok (.ireturn, 1) := by decide +kernel
theorem dX12_steer_82 : decode cX12_steer 82 = .ok (.aload_n 0, 1) := by decide +kernel
theorem dX12_steer_83 : decode cX12_steer 83 = .ok (.dup, 1) := by decide +kernel
theorem dX12_steer_84 : decode cX12_steer 84 = .ok (.getfield 295, 3) := by decide +kernel
theorem dX12_steer_87 : decode cX12_steer 87 = .ok (.iconst 1, 1) := by decide +kernel
theorem dX12_steer_88 : decode cX12_steer 88 = .ok (.iadd, 1) := by decide +kernel
theorem dX12_steer_89 : decode cX12_steer 89 = .ok (.putfield 295, 3) := by decide +kernel
theorem dX12_steer_92 : decode cX12_steer 92 = .ok (.iload_n 2, 1) := by decide +kernel
theorem dX12_steer_93 : decode cX12_steer 93 = .ok (.bipush 98, 2) := by decide +kernel
theorem dX12_steer_95 : decode cX12_steer 95 = .ok (.if_icmp .ne 9, 3) := by decide +kernel
theorem dX12_steer_98 : decode cX12_steer 98 = .ok (.aload_n 0, 1) := by decide +kernel
theorem dX12_steer_99 : decode cX12_steer 99 = .ok (.iload_n 1, 1) := by decide +kernel
theorem dX12_steer_100 : decode cX12_steer 100 = .ok (.invokevirtual 509, 3) := by decide +kernel
theorem dX12_steer_103 : decode cX12_steer 103 = .ok (.ireturn, 1) := by decide +kernel
theorem dX12_steer_104 : decode cX12_steer 104 = .ok (.iload_n 2, 1) := by decide +kernel
theorem dX12_steer_105 : decode cX12_steer 105 = .ok (.bipush 84, 2) := by decide +kernel
theorem dX12_steer_107 : decode cX12_steer 107 = .ok (.if_icmp .ne 21, 3) := by decide +kernel
theorem dX12_steer_110 : decode cX12_steer 110 = .ok (.aload_n 0, 1) := by decide +kernel
theorem dX12_steer_111 : decode cX12_steer 111 = .ok (.getfield 385, 3) := by decide +kernel
theorem dX12_steer_114 : decode cX12_steer 114 = .ok (.ifCond .eq 14, 3) := by decide +kernel
theorem dX12_steer_117 : decode cX12_steer 117 = .ok (.aload_n 0, 1) := by decide +kernel
theorem dX12_steer_118 : decode cX12_steer 118 = .ok (.iconst 0, 1) := by decide +kernel
theorem dX12_steer_119 : decode cX12_steer 119 = .ok (.putfield 385, 3) := by decide +kernel
theorem dX12_steer_122 : decode cX12_steer 122 = .ok (.aload_n 0, 1) := by decide +kernel
theorem dX12_steer_123 : decode cX12_steer 123 = .ok (.iload_n 1, 1) := by decide +kernel
theorem dX12_steer_124 : decode cX12_steer 124 = .ok (.invokevirtual 509, 3) := by decide +kernel
theorem dX12_steer_127 : decode cX12_steer 127 = .ok (.ireturn, 1) := by decide +kernel
theorem dX12_steer_128 : decode cX12_steer 128 = .ok (.iconst 0, 1) := by decide +kernel
theorem dX12_steer_129 : decode cX12_steer 129 = .ok (.ireturn, 1) := by decide +kernel
theorem dX12_doOrder_0 : decode cX12_doOrder 0 = .ok (.aload_n 0, 1) := by decide +kernel
theorem dX12_doOrder_1 : decode cX12_doOrder 1 = .ok (.iload_n 1, 1) := by decide +kernel
theorem dX12_doOrder_2 : decode cX12_doOrder 2 = .ok (.iconst 0, 1) := by decide +kernel
theorem dX12_doOrder_3 : decode cX12_doOrder 3 = .ok (.invokevirtual 470, 3) := by decide +kernel
theorem dX12_doOrder_6 : decode cX12_doOrder 6 = .ok (.istore_n 2, 1) := by decide +kernel
theorem dX12_doOrder_7 : decode cX12_doOrder 7 = .ok (.aload_n 0, 1) := by decide +kernel
theorem dX12_doOrder_8 : decode cX12_doOrder 8 = .ok (.iload_n 2, 1) := by decide +kernel
theorem dX12_doOrder_9 : decode cX12_doOrder 9 = .ok (.aload_n 0, 1) := by decide +kernel
theorem dX12_doOrder_10 : decode cX12_doOrder 10 = .ok (.getfield 146, 3) := by decide +kernel
theorem dX12_doOrder_13 : decode cX12_doOrder 13 = .ok (.if_icmp .ge 9, 3) := by decide +kernel
theorem dX12_doOrder_16 : decode cX12_doOrder 16 = .ok (.iload_n 2, 1) := by decide +kernel
theorem dX12_doOrder_17 : decode cX12_doOrder 17 = .ok (.iconst 1, 1) := by decide +kernel
theorem dX12_doOrder_18 : decode cX12_doOrder 18 = .ok (.iadd, 1) := by decide +kernel
theorem dX12_doOrder_19 : decode cX12_doOrder 19 = .ok (.goto 7, 3) := by decide +kernel
theorem dX12_doOrder_22 : decode cX12_doOrder 22 = .ok (.aload_n 0, 1) := by decide +kernel
theorem dX12_doOrder_23 : decode cX12_doOrder 23 = .ok (.getfield 146, 3) := by decide +kernel
theorem dX12_doOrder_26 : decode cX12_doOrder 26 = .ok (.putfield 506, 3) := by decide +kernel
theorem dX12_doOrder_29 : decode cX12_doOrder 29 = .ok (.aload_n 0, 1) := by decide +kernel
theorem dX12_doOrder_30 : decode cX12_doOrder 30 = .ok (.iload_n 1, 1) := by decide +kernel
theorem dX12_doOrder_31 : decode cX12_doOrder 31 = .ok (.invokevirtual 458, 3) := by decide +kernel
theorem dX12_doOrder_34 : decode cX12_doOrder 34 = .ok (.aload_n 0, 1) := by decide +kernel
theorem dX12_doOrder_35 : decode cX12_doOrder 35 = .ok (.getfield 218, 3) := by decide +kernel
theorem dX12_doOrder_38 : decode cX12_doOrder 38 = .ok (.istore_n 3, 1) := by decide +kernel
theorem dX12_doOrder_39 : decode cX12_doOrder 39 = .ok (.aload_n 0, 1) := by decide +kernel
theorem dX12_doOrder_40 : decode cX12_doOrder 40 = .ok (.getfield 44, 3) := by decide +kernel
theorem dX12_doOrder_43 : decode cX12_doOrder 43 = .ok (.iload_n 3, 1) := by decide +kernel
theorem dX12_doOrder_44 : decode cX12_doOrder 44 = .ok (.iaload, 1) := by decide +kernel
theorem dX12_doOrder_45 : decode cX12_doOrder 45 = .ok (.istore 4, 2) := by decide +kernel
theorem dX12_doOrder_47 : decode cX12_doOrder 47 = .ok (.iload 4, 2) := by decide +kernel
theorem dX12_doOrder_49 : decode cX12_doOrder 49 = .ok (.bipush 58, 2) := by decide +kernel
theorem dX12_doOrder_51 : decode cX12_doOrder 51 = .ok (.if_icmp .ne 5, 3) := by decide +kernel
theorem dX12_doOrder_54 : decode cX12_doOrder 54 = .ok (.iconst 0, 1) := by decide +kernel
theorem dX12_doOrder_55 : decode cX12_doOrder 55 = .ok (.ireturn, 1) := by decide +kernel
theorem dX12_doOrder_56 : decode cX12_doOrder 56 = .ok (.iload 4, 2) := by decide +kernel
theorem dX12_doOrder_58 : decode cX12_doOrder 58 = .ok (.bipush 113, 2) := by decide +kernel
theorem dX12_doOrder_60 : decode cX12_doOrder 60 = .ok (.if_icmp .eq 24, 3) := by decide +kernel
theorem dX12_doOrder_63 : decode cX12_doOrder 63 = .ok (.iload 4, 2) := by decide +kernel
theorem dX12_doOrder_65 : decode cX12_doOrder 65 = .ok (.bipush 98, 2) := by decide +kernel
theorem dX12_doOrder_67 : decode cX12_doOrder 67 = .ok (.if_icmp .eq 17, 3) := by decide +kernel
theorem dX12_doOrder_70 : decode cX12_doOrder 70 = .ok (.iload 4, 2) := by decide +kernel
theorem dX12_doOrder_72 : decode cX12_doOrder 72 = .ok (.bipush 84, 2) := by decide +kernel
theorem dX12_doOrder_74 : decode cX12_doOrder 74 = .ok (.if_icmp .eq 10, 3) := by decide +kernel
theorem dX12_doOrder_77 : decode cX12_doOrder 77 = .ok (.iload 4, 2) := by decide +kernel
theorem dX12_doOrder_79 : decode cX12_doOrder 79 = .ok (.bipush 78, 2) := by decide +kernel
theorem dX12_doOrder_81 : decode cX12_doOrder 81 = .ok (.if_icmp .ne 9, 3) := by decide +kernel
theorem dX12_doOrder_84 : decode cX12_doOrder 84 = .ok (.aload_n 0, 1) := by decide +kernel
theorem dX12_doOrder_85 : decode cX12_doOrder 85 = .ok (.iload_n 3, 1) := by decide +kernel
theorem dX12_doOrder_86 : decode cX12_doOrder 86 = .ok (.invokevirtual 512, 3) := by decide +kernel
theorem dX12_doOrder_89 : decode cX12_doOrder 89 = .ok (.ireturn, 1) := by decide +kernel
theorem dX12_doOrder_90 : decode cX12_doOrder 90 = .ok (.aload_n 0, 1) := by decide +kernel
theorem dX12_doOrder_91 : decode cX12_doOrder 91 = .ok (.invokevirtual 461, 3) := by decide +kernel
theorem dX12_doOrder_94 : decode cX12_doOrder 94 = .ok (.istore 5, 2) := by decide +kernel
theorem dX12_doOrder_96 : decode cX12_doOrder 96 = .ok (.iload 5, 2) := by decide +kernel
theorem dX12_doOrder_98 : decode cX12_doOrder 98 = .ok (.ifCond .le 6, 3) := by decide +kernel
theorem dX12_doOrder_101 : decode cX12_doOrder 101 = .ok (.iload 5, 2) := by decide +kernel
theorem dX12_doOrder_103 : decode cX12_doOrder 103 = .ok (.ireturn, 1) := by decide +kernel
theorem dX12_doOrder_104 : decode cX12_doOrder 104 = .ok (.iload 4, 2) := by decide +kernel
theorem dX12_doOrder_106 : decode cX12_doOrder 106 = .ok (.bipush 103, 2) := by decide +kernel
theorem dX12_doOrder_108 : decode cX12_doOrder 108 = .ok (.if_icmp .eq 17, 3) := by decide +kernel
theorem dX12_doOrder_111 : decode cX12_doOrder 111 = .ok (.iload 4, 2) := by decide +kernel
theorem dX12_doOrder_113 : decode cX12_doOrder 113 = .ok (.bipush 71, 2) := by decide +kernel
theorem dX12_doOrder_115 : decode cX12_doOrder 115 = .ok (.if_icmp .eq 10, 3) := by decide +kernel
theorem dX12_doOrder_118 : decode cX12_doOrder 118 = .ok (.iload 4, 2) := by decide +kernel
theorem dX12_doOrder_120 : decode cX12_doOrder 120 = .ok (.bipush 123, 2) := by decide +kernel
theorem dX12_doOrder_122 : decode cX12_doOrder 122 = .ok (.if_icmp .ne 11, 3) := by decide +kernel
theorem dX12_doOrder_125 : decode cX12_doOrder 125 = .ok (.aload_n 0, 1) := by decide +kernel
theorem dX12_doOrder_126 : decode cX12_doOrder 126 = .ok (.iload_n 3, 1) := by decide +kernel
theorem dX12_doOrder_127 : decode cX12_doOrder 127 = .ok (.invokevirtual 515, 3) := by decide +kernel
theorem dX12_doOrder_130 : decode cX12_doOrder 130 = .ok (.goto 8, 3) := by decide +kernel
theorem dX12_doOrder_133 : decode cX12_doOrder 133 = .ok (.aload_n 0, 1) := by decide +kernel
theorem dX12_doOrder_134 : decode cX12_doOrder 134 = .ok (.iload_n 3, 1) := by decide +kernel
theorem dX12_doOrder_135 : decode cX12_doOrder 135 = .ok (.invokevirtual 464, 3) := by decide +kernel
theorem dX12_doOrder_138 : decode cX12_doOrder 138 = .ok (.ireturn, 1) := by decide +kernel
theorem dX12_isDeed_0 : decode cX12_isDeed 0 = .ok (.aload_n 0, 1) := by decide +kernel
theorem dX12_isDeed_1 : decode cX12_isDeed 1 = .ok (.iload_n 1, 1) := by decide +kernel
theorem dX12_isDeed_2 : decode cX12_isDeed 2 = .ok (.invokevirtual 458, 3) := by decide +kernel
theorem dX12_isDeed_5 : decode cX12_isDeed 5 = .ok (.aload_n 0, 1) := by decide +kernel
theorem dX12_isDeed_6 : decode cX12_isDeed 6 = .ok (.getfield 44, 3) := by decide +kernel
theorem dX12_isDeed_9 : decode cX12_isDeed 9 = .ok (.aload_n 0, 1) := by decide +kernel
theorem dX12_isDeed_10 : decode cX12_isDeed 10 = .ok (.getfield 218, 3) := by decide +kernel
theorem dX12_isDeed_13 : decode cX12_isDeed 13 = .ok (.iaload, 1) := by decide +kernel
theorem dX12_isDeed_14 : decode cX12_isDeed 14 = .ok (.istore_n 2, 1) := by decide +kernel
theorem dX12_isDeed_15 : decode cX12_isDeed 15 = .ok (.iload_n 2, 1) := by decide +kernel
theorem dX12_isDeed_16 : decode cX12_isDeed 16 = .ok (.bipush 58, 2) := by decide +kernel
theorem dX12_isDeed_18 : decode cX12_isDeed 18 = .ok (.if_icmp .eq 25, 3) := by decide +kernel
theorem dX12_isDeed_21 : decode cX12_isDeed 21 = .ok (.iload_n 2, 1) := by decide +kernel
theorem dX12_isDeed_22 : decode cX12_isDeed 22 = .ok (.bipush 98, 2) := by decide +kernel
theorem dX12_isDeed_24 : decode cX12_isDeed 24 = .ok (.if_icmp .eq 19, 3) := by decide +kernel
theorem dX12_isDeed_27 : decode cX12_isDeed 27 = .ok (.iload_n 2, 1) := by decide +kernel
theorem dX12_isDeed_28 : decode cX12_isDeed 28 = .ok (.bipush 84, 2) := by decide +kernel
theorem dX12_isDeed_30 : decode cX12_isDeed 30 = .ok (.if_icmp .eq 13, 3) := by decide +kernel
theorem dX12_isDeed_33 : decode cX12_isDeed 33 = .ok (.iload_n 2, 1) := by decide +kernel
theorem dX12_isDeed_34 : decode cX12_isDeed 34 = .ok (.bipush 113, 2) := by decide +kernel
theorem dX12_isDeed_36 : decode cX12_isDeed 36 = .ok (.if_icmp .eq 7, 3) := by decide +kernel
theorem dX12_isDeed_39 : decode cX12_isDeed 39 = .ok (.iconst 1, 1) := by decide +kernel
theorem dX12_isDeed_40 : decode cX12_isDeed 40 = .ok (.goto 4, 3) := by decide +kernel
theorem dX12_isDeed_43 : decode cX12_isDeed 43 = .ok (.iconst 0, 1) := by decide +kernel
theorem dX12_isDeed_44 : decode cX12_isDeed 44 = .ok (.ireturn, 1) := by decide +kernel
theorem dX12_doAll_0 : decode cX12_doAll 0 = .ok (.iconst 0, 1) := by decide +kernel
theorem dX12_doAll_1 : decode cX12_doAll 1 = .ok (.istore_n 1, 1) := by decide +kernel
theorem dX12_doAll_2 : decode cX12_doAll 2 = .ok (.iconst 0, 1) := by decide +kernel
theorem dX12_doAll_3 : decode cX12_doAll 3 = .ok (.istore_n 2, 1) := by decide +kernel
theorem dX12_doAll_4 : decode cX12_doAll 4 = .ok (.aload_n 0, 1) := by decide +kernel
theorem dX12_doAll_5 : decode cX12_doAll 5 = .ok (.dup, 1) := by decide +kernel
theorem dX12_doAll_6 : decode cX12_doAll 6 = .ok (.getfield 497, 3) := by decide +kernel
theorem dX12_doAll_9 : decode cX12_doAll 9 = .ok (.iconst 1, 1) := by decide +kernel
theorem dX12_doAll_10 : decode cX12_doAll 10 = .ok (.iadd, 1) := by decide +kernel
theorem dX12_doAll_11 : decode cX12_doAll 11 = .ok (.putfield 497, 3) := by decide +kernel
theorem dX12_doAll_14 : decode cX12_doAll 14 = .ok (.aload_n 0, 1) := by decide +kernel
theorem dX12_doAll_15 : decode cX12_doAll 15 = .ok (.iconst 0, 1) := by decide +kernel
theorem dX12_doAll_16 : decode cX12_doAll 16 = .ok (.putfield 455, 3) := by decide +kernel
theorem dX12_doAll_19 : decode cX12_doAll 19 = .ok (.aload_n 0, 1) := by decide +kernel
theorem dX12_doAll_20 : decode cX12_doAll 20 = .ok (.iconst 0, 1) := by decide +kernel
theorem dX12_doAll_21 : decode cX12_doAll 21 = .ok (.putfield 385, 3) := by decide +kernel
theorem dX12_doAll_24 : decode cX12_doAll 24 = .ok (.aload_n 0, 1) := by decide +kernel
theorem dX12_doAll_25 : decode cX12_doAll 25 = .ok (.iconst 0, 1) := by decide +kernel
theorem dX12_doAll_26 : decode cX12_doAll 26 = .ok (.putfield 518, 3) := by decide +kernel
theorem dX12_doAll_29 : decode cX12_doAll 29 = .ok (.iload_n 1, 1) := by decide +kernel
theorem dX12_doAll_30 : decode cX12_doAll 30 = .ok (.aload_n 0, 1) := by decide +kernel
theorem dX12_doAll_31 : decode cX12_doAll 31 = .ok (.getfield 146, 3) := by decide +kernel
theorem dX12_doAll_34 : decode cX12_doAll 34 = .ok (.if_icmp .ge 88, 3) := by decide +kernel
theorem dX12_doAll_37 : decode cX12_doAll 37 = .ok (.aload_n 0, 1) := by decide +kernel
theorem dX12_doAll_38 : decode cX12_doAll 38 = .ok (.getfield 518, 3) := by decide +kernel
theorem dX12_doAll_41 : decode cX12_doAll 41 = .ok (.ifCond .ne 81, 3) := by decide +kernel
theorem dX12_doAll_44 : decode cX12_doAll 44 = .ok (.aload_n 0, 1) := by decide +kernel
theorem dX12_doAll_45 : decode cX12_doAll 45 = .ok (.getfield 455, 3) := by decide +kernel
theorem dX12_doAll_48 : decode cX12_doAll 48 = .ok (.bipush 60, 2) := by decide +kernel
theorem dX12_doAll_50 : decode cX12_doAll 50 = .ok (.if_icmp .ne 11, 3) := by decide +kernel
theorem dX12_doAll_53 : decode cX12_doAll 53 = .ok (.aload_n 0, 1) := by decide +kernel
theorem dX12_doAll_54 : decode cX12_doAll 54 = .ok (.bipush 7, 2) := by decide +kernel
theorem dX12_doAll_56 : decode cX12_doAll 56 = .ok (.putfield 518, 3) := by decide +kernel
theorem dX12_doAll_59 : decode cX12_doAll 59 = .ok (.iload_n 2, 1) := by decide +kernel
theorem dX12_doAll_60 : decode cX12_doAll 60 = .ok (.ireturn, 1) := by decide +kernel
theorem dX12_doAll_61 : decode cX12_doAll 61 = .ok (.aload_n 0, 1) := by decide +kernel
theorem dX12_doAll_62 : decode cX12_doAll 62 = .ok (.dup, 1) := by decide +kernel
theorem dX12_doAll_63 : decode cX12_doAll 63 = .ok (.getfield 455, 3) := by decide +kernel
theorem dX12_doAll_66 : decode cX12_doAll 66 = .ok (.iconst 1, 1) := by decide +kernel
theorem dX12_doAll_67 : decode cX12_doAll 67 = .ok (.iadd, 1) := by decide +kernel
theorem dX12_doAll_68 : decode cX12_doAll 68 = .ok (.putfield 455, 3) := by decide +kernel
theorem dX12_doAll_71 : decode cX12_doAll 71 = .ok (.aload_n 0, 1) := by decide +kernel
theorem dX12_doAll_72 : decode cX12_doAll 72 = .ok (.invokevirtual 521, 3) := by decide +kernel
theorem dX12_doAll_75 : decode cX12_doAll 75 = .ok (.aload_n 0, 1) := by decide +kernel
theorem dX12_doAll_76 : decode cX12_doAll 76 = .ok (.aload_n 0, 1) := by decide +kernel
theorem dX12_doAll_77 : decode cX12_doAll 77 = .ok (.iload_n 1, 1) := by decide +kernel
theorem dX12_doAll_78 : decode cX12_doAll 78 = .ok (.invokevirtual 524, 3) := by decide +kernel
theorem dX12_doAll_81 : decode cX12_doAll 81 = .ok (.putfield 518, 3) := by decide +kernel
theorem dX12_doAll_84 : decode cX12_doAll 84 = .ok (.aload_n 0, 1) := by decide +kernel
theorem dX12_doAll_85 : decode cX12_doAll 85 = .ok (.getfield 518, 3) := by decide +kernel
theorem dX12_doAll_88 : decode cX12_doAll 88 = .ok (.ifCond .le 9, 3) := by decide +kernel
theorem dX12_doAll_91 : decode cX12_doAll 91 = .ok (.aload_n 0, 1) := by decide +kernel
theorem dX12_doAll_92 : decode cX12_doAll 92 = .ok (.invokevirtual 527, 3) := by decide +kernel
theorem dX12_doAll_95 : decode cX12_doAll 95 = .ok (.iload_n 2, 1) := by decide +kernel
theorem dX12_doAll_96 : decode cX12_doAll 96 = .ok (.ireturn, 1) := by decide +kernel
theorem dX12_doAll_97 : decode cX12_doAll 97 = .ok (.aload_n 0, 1) := by decide +kernel
theorem dX12_doAll_98 : decode cX12_doAll 98 = .ok (.getfield 506, 3) := by decide +kernel
theorem dX12_doAll_101 : decode cX12_doAll 101 = .ok (.istore_n 3, 1) := by decide +kernel
theorem dX12_doAll_102 : decode cX12_doAll 102 = .ok (.aload_n 0, 1) := by decide +kernel
theorem dX12_doAll_103 : decode cX12_doAll 103 = .ok (.iload_n 1, 1) := by decide +kernel
theorem dX12_doAll_104 : decode cX12_doAll 104 = .ok (.invokevirtual 530, 3) := by decide +kernel
theorem dX12_doAll_107 : decode cX12_doAll 107 = .ok (.ifCond .eq 7, 3) := by decide +kernel
theorem dX12_doAll_110 : decode cX12_doAll 110 = .ok (.aload_n 0, 1) := by decide +kernel
theorem dX12_doAll_111 : decode cX12_doAll 111 = .ok (.invokevirtual 533, 3) := by decide +kernel
theorem dX12_doAll_114 : decode cX12_doAll 114 = .ok (.iinc 2 1, 3) := by decide +kernel
theorem dX12_doAll_117 : decode cX12_doAll 117 = .ok (.iload_n 3, 1) := by decide +kernel
theorem dX12_doAll_118 : decode cX12_doAll 118 = .ok (.istore_n 1, 1) := by decide +kernel
theorem dX12_doAll_119 : decode cX12_doAll 119 = .ok (.goto (-90), 3) := by decide +kernel
theorem dX12_doAll_122 : decode cX12_doAll 122 = .ok (.iload_n 2, 1) := by decide +kernel
theorem dX12_doAll_123 : decode cX12_doAll 123 = .ok (.ireturn, 1) := by decide +kernel
theorem dX12_put_0 : decode cX12_put 0 = .ok (.aload_n 0, 1) := by decide +kernel
theorem dX12_put_1 : decode cX12_put 1 = .ok (.getfield 536, 3) := by decide +kernel
theorem dX12_put_4 : decode cX12_put 4 = .ok (.bipush 40, 2) := by decide +kernel
theorem dX12_put_6 : decode cX12_put 6 = .ok (.if_icmp .ne 5, 3) := by decide +kernel
theorem dX12_put_9 : decode cX12_put 9 = .ok (.iconst 4, 1) := by decide +kernel
theorem dX12_put_10 : decode cX12_put 10 = .ok (.ireturn, 1) := by decide +kernel
theorem dX12_put_11 : decode cX12_put 11 = .ok (.aload_n 0, 1) := by decide +kernel
theorem dX12_put_12 : decode cX12_put 12 = .ok (.iload_n 1, 1) := by decide +kernel
theorem dX12_put_13 : decode cX12_put 13 = .ok (.bipush 41, 2) := by decide +kernel
theorem dX12_put_15 : decode cX12_put 15 = .ok (.aload_n 0, 1) := by decide +kernel
theorem dX12_put_16 : decode cX12_put 16 = .ok (.getfield 536, 3) := by decide +kernel
theorem dX12_put_19 : decode cX12_put 19 = .ok (.iadd, 1) := by decide +kernel
theorem dX12_put_20 : decode cX12_put 20 = .ok (.invokevirtual 127, 3) := by decide +kernel
theorem dX12_put_23 : decode cX12_put 23 = .ok (.aload_n 0, 1) := by decide +kernel
theorem dX12_put_24 : decode cX12_put 24 = .ok (.getfield 29, 3) := by decide +kernel
theorem dX12_put_27 : decode cX12_put 27 = .ok (.aload_n 0, 1) := by decide +kernel
theorem dX12_put_28 : decode cX12_put 28 = .ok (.getfield 536, 3) := by decide +kernel
theorem dX12_put_31 : decode cX12_put 31 = .ok (.iload_n 2, 1) := by decide +kernel
theorem dX12_put_32 : decode cX12_put 32 = .ok (.iastore, 1) := by decide +kernel
theorem dX12_put_33 : decode cX12_put 33 = .ok (.aload_n 0, 1) := by decide +kernel
theorem dX12_put_34 : decode cX12_put 34 = .ok (.dup, 1) := by decide +kernel
theorem dX12_put_35 : decode cX12_put 35 = .ok (.getfield 536, 3) := by decide +kernel
theorem dX12_put_38 : decode cX12_put 38 = .ok (.iconst 1, 1) := by decide +kernel
theorem dX12_put_39 : decode cX12_put 39 = .ok (.iadd, 1) := by decide +kernel
theorem dX12_put_40 : decode cX12_put 40 = .ok (.putfield 536, 3) := by decide +kernel
theorem dX12_put_43 : decode cX12_put 43 = .ok (.iconst 0, 1) := by decide +kernel
theorem dX12_put_44 : decode cX12_put 44 = .ok (.ireturn, 1) := by decide +kernel
theorem dX12_putNew_0 : decode cX12_putNew 0 = .ok (.aload_n 0, 1) := by decide +kernel
theorem dX12_putNew_1 : decode cX12_putNew 1 = .ok (.iload_n 1, 1) := by decide +kernel
theorem dX12_putNew_2 : decode cX12_putNew 2 = .ok (.aload_n 0, 1) := by decide +kernel
theorem dX12_putNew_3 : decode cX12_putNew 3 = .ok (.getfield 134, 3) := by decide +kernel
theorem dX12_putNew_6 : decode cX12_putNew 6 = .ok (.invokevirtual 539, 3) := by decide +kernel
theorem dX12_putNew_9 : decode cX12_putNew 9 = .ok (.istore_n 2, 1) := by decide +kernel
theorem dX12_putNew_10 : decode cX12_putNew 10 = .ok (.aload_n 0, 1) := by decide +kernel
theorem dX12_putNew_11 : decode cX12_putNew 11 = .ok (.dup, 1) := by decide +kernel
theorem dX12_putNew_12 : decode cX12_putNew 12 = .ok (.getfield 134, 3) := by decide +kernel
theorem dX12_putNew_15 : decode cX12_putNew 15 = .ok (.iload_n 2, 1) := by decide +kernel
theorem dX12_putNew_16 : decode cX12_putNew 16 = .ok (.ifCond .ne 7, 3) := by decide +kernel
theorem dX12_putNew_19 : decode cX12_putNew 19 = .ok (.iconst 1, 1) := by decide +kernel
theorem dX12_putNew_20 : decode cX12_putNew 20 = .ok (.goto 4, 3) := by decide +kernel
theorem dX12_putNew_23 : decode cX12_putNew 23 = .ok (.iconst 0, 1) := by decide +kernel
theorem dX12_putNew_24 : decode cX12_putNew 24 = .ok (.iadd, 1) := by decide +kernel
theorem dX12_putNew_25 : decode cX12_putNew 25 = .ok (.putfield 134, 3) := by decide +kernel
theorem dX12_putNew_28 : decode cX12_putNew 28 = .ok (.iload_n 2, 1) := by decide +kernel
theorem dX12_putNew_29 : decode cX12_putNew 29 = .ok (.ireturn, 1) := by decide +kernel
theorem dX12_due_0 : decode cX12_due 0 = .ok (.aload_n 0, 1) := by decide +kernel
theorem dX12_due_1 : decode cX12_due 1 = .ok (.getfield 542, 3) := by decide +kernel
theorem dX12_due_4 : decode cX12_due 4 = .ok (.bipush 41, 2) := by decide +kernel
theorem dX12_due_6 : decode cX12_due 6 = .ok (.if_icmp .ge 16, 3) := by decide +kernel
theorem dX12_due_9 : decode cX12_due 9 = .ok (.aload_n 0, 1) := by decide +kernel
theorem dX12_due_10 : decode cX12_due 10 = .ok (.iload_n 1, 1) := by decide +kernel
theorem dX12_due_11 : decode cX12_due 11 = .ok (.sipush 388, 3) := by decide +kernel
theorem dX12_due_14 : decode cX12_due 14 = .ok (.aload_n 0, 1) := by decide +kernel
theorem dX12_due_15 : decode cX12_due 15 = .ok (.getfield 542, 3) := by decide +kernel
theorem dX12_due_18 : decode cX12_due 18 = .ok (.iadd, 1) := by decide +kernel
theorem dX12_due_19 : decode cX12_due 19 = .ok (.invokevirtual 127, 3) := by decide +kernel
theorem dX12_due_22 : decode cX12_due 22 = .ok (.aload_n 0, 1) := by decide +kernel
theorem dX12_due_23 : decode cX12_due 23 = .ok (.dup, 1) := by decide +kernel
theorem dX12_due_24 : decode cX12_due 24 = .ok (.getfield 542, 3) := by decide +kernel
theorem dX12_due_27 : decode cX12_due 27 = .ok (.iconst 1, 1) := by decide +kernel
theorem dX12_due_28 : decode cX12_due 28 = .ok (.iadd, 1) := by decide +kernel
theorem dX12_due_29 : decode cX12_due 29 = .ok (.putfield 542, 3) := by decide +kernel
theorem dX12_due_32 : decode cX12_due 32 = .ok (.return_, 1) := by decide +kernel
theorem dX12_takeNext_0 : decode cX12_takeNext 0 = .ok (.aload_n 0, 1) := by decide +kernel
theorem dX12_takeNext_1 : decode cX12_takeNext 1 = .ok (.iconst 0, 1) := by decide +kernel
theorem dX12_takeNext_2 : decode cX12_takeNext 2 = .ok (.aload_n 0, 1) := by decide +kernel
theorem dX12_takeNext_3 : decode cX12_takeNext 3 = .ok (.getfield 545, 3) := by decide +kernel
theorem dX12_takeNext_6 : decode cX12_takeNext 6 = .ok (.iadd, 1) := by decide +kernel
theorem dX12_takeNext_7 : decode cX12_takeNext 7 = .ok (.sipush 429, 3) := by decide +kernel
theorem dX12_takeNext_10 : decode cX12_takeNext 10 = .ok (.invokevirtual 127, 3) := by decide +kernel
theorem dX12_takeNext_13 : decode cX12_takeNext 13 = .ok (.aload_n 0, 1) := by decide +kernel
theorem dX12_takeNext_14 : decode cX12_takeNext 14 = .ok (.aload_n 0, 1) := by decide +kernel
theorem dX12_takeNext_15 : decode cX12_takeNext 15 = .ok (.getfield 26, 3) := by decide +kernel
theorem dX12_takeNext_18 : decode cX12_takeNext 18 = .ok (.aload_n 0, 1) := by decide +kernel
theorem dX12_takeNext_19 : decode cX12_takeNext 19 = .ok (.getfield 545, 3) := by decide +kernel
theorem dX12_takeNext_22 : decode cX12_takeNext 22 = .ok (.iaload, 1) := by decide +kernel
theorem dX12_takeNext_23 : decode cX12_takeNext 23 = .ok (.putfield 548, 3) := by decide +kernel
theorem dX12_takeNext_26 : decode cX12_takeNext 26 = .ok (.aload_n 0, 1) := by decide +kernel
theorem dX12_takeNext_27 : decode cX12_takeNext 27 = .ok (.aload_n 0, 1) := by decide +kernel
theorem dX12_takeNext_28 : decode cX12_takeNext 28 = .ok (.getfield 545, 3) := by decide +kernel
theorem dX12_takeNext_31 : decode cX12_takeNext 31 = .ok (.iconst 1, 1) := by decide +kernel
theorem dX12_takeNext_32 : decode cX12_takeNext 32 = .ok (.iadd, 1) := by decide +kernel
theorem dX12_takeNext_33 : decode cX12_takeNext 33 = .ok (.putfield 551, 3) := by decide +kernel
theorem dX12_takeNext_36 : decode cX12_takeNext 36 = .ok (.aload_n 0, 1) := by decide +kernel
theorem dX12_takeNext_37 : decode cX12_takeNext 37 = .ok (.dup, 1) := by decide +kernel
theorem dX12_takeNext_38 : decode cX12_takeNext 38 = .ok (.getfield 545, 3) := by decide +kernel
theorem dX12_takeNext_41 : decode cX12_takeNext 41 = .ok (.iconst 1, 1) := by decide +kernel
theorem dX12_takeNext_42 : decode cX12_takeNext 42 = .ok (.iadd, 1) := by decide +kernel
theorem dX12_takeNext_43 : decode cX12_takeNext 43 = .ok (.putfield 545, 3) := by decide +kernel
theorem dX12_takeNext_46 : decode cX12_takeNext 46 = .ok (.aload_n 0, 1) := by decide +kernel
theorem dX12_takeNext_47 : decode cX12_takeNext 47 = .ok (.dup, 1) := by decide +kernel
theorem dX12_takeNext_48 : decode cX12_takeNext 48 = .ok (.getfield 554, 3) := by decide +kernel
theorem dX12_takeNext_51 : decode cX12_takeNext 51 = .ok (.iconst 1, 1) := by decide +kernel
theorem dX12_takeNext_52 : decode cX12_takeNext 52 = .ok (.iadd, 1) := by decide +kernel
theorem dX12_takeNext_53 : decode cX12_takeNext 53 = .ok (.putfield 554, 3) := by decide +kernel
theorem dX12_takeNext_56 : decode cX12_takeNext 56 = .ok (.aload_n 0, 1) := by decide +kernel
theorem dX12_takeNext_57 : decode cX12_takeNext 57 = .ok (.iconst 1, 1) := by decide +kernel
theorem dX12_takeNext_58 : decode cX12_takeNext 58 = .ok (.putfield 557, 3) := by decide +kernel
theorem dX12_takeNext_61 : decode cX12_takeNext 61 = .ok (.aload_n 0, 1) := by decide +kernel
theorem dX12_takeNext_62 : decode cX12_takeNext 62 = .ok (.iconst 0, 1) := by decide +kernel
theorem dX12_takeNext_63 : decode cX12_takeNext 63 = .ok (.putfield 542, 3) := by decide +kernel
theorem dX12_takeNext_66 : decode cX12_takeNext 66 = .ok (.aload_n 0, 1) := by decide +kernel
theorem dX12_takeNext_67 : decode cX12_takeNext 67 = .ok (.iconst 0, 1) := by decide +kernel
theorem dX12_takeNext_68 : decode cX12_takeNext 68 = .ok (.putfield 385, 3) := by decide +kernel
theorem dX12_takeNext_71 : decode cX12_takeNext 71 = .ok (.return_, 1) := by decide +kernel
theorem dX12_putWork_0 : decode cX12_putWork 0 = .ok (.aload_n 0, 1) := by decide +kernel
theorem dX12_putWork_1 : decode cX12_putWork 1 = .ok (.getfield 557, 3) := by decide +kernel
theorem dX12_putWork_4 : decode cX12_putWork 4 = .ok (.ifCond .eq 17, 3) := by decide +kernel
theorem dX12_putWork_7 : decode cX12_putWork 7 = .ok (.aload_n 0, 1) := by decide +kernel
theorem dX12_putWork_8 : decode cX12_putWork 8 = .ok (.sipush 429, 3) := by decide +kernel
theorem dX12_putWork_11 : decode cX12_putWork 11 = .ok (.aload_n 0, 1) := by decide +kernel
theorem dX12_putWork_12 : decode cX12_putWork 12 = .ok (.getfield 548, 3) := by decide +kernel
theorem dX12_putWork_15 : decode cX12_putWork 15 = .ok (.invokevirtual 539, 3) := by decide +kernel
theorem dX12_putWork_18 : decode cX12_putWork 18 = .ok (.goto 4, 3) := by decide +kernel
theorem dX12_putWork_21 : decode cX12_putWork 21 = .ok (.iconst 0, 1) := by decide +kernel
theorem dX12_putWork_22 : decode cX12_putWork 22 = .ok (.istore_n 1, 1) := by decide +kernel
theorem dX12_putWork_23 : decode cX12_putWork 23 = .ok (.iconst 0, 1) := by decide +kernel
theorem dX12_putWork_24 : decode cX12_putWork 24 = .ok (.istore_n 2, 1) := by decide +kernel
theorem dX12_putWork_25 : decode cX12_putWork 25 = .ok (.iload_n 2, 1) := by decide +kernel
theorem dX12_putWork_26 : decode cX12_putWork 26 = .ok (.aload_n 0, 1) := by decide +kernel
theorem dX12_putWork_27 : decode cX12_putWork 27 = .ok (.getfield 542, 3) := by decide +kernel
theorem dX12_putWork_30 : decode cX12_putWork 30 = .ok (.if_icmp .ge 23, 3) := by decide +kernel
theorem dX12_putWork_33 : decode cX12_putWork 33 = .ok (.iload_n 1, 1) := by decide +kernel
theorem dX12_putWork_34 : decode cX12_putWork 34 = .ok (.ifCond .ne 19, 3) := by decide +kernel
theorem dX12_putWork_37 : decode cX12_putWork 37 = .ok (.aload_n 0, 1) := by decide +kernel
theorem dX12_putWork_38 : decode cX12_putWork 38 = .ok (.sipush 388, 3) := by decide +kernel
theorem dX12_putWork_41 : decode cX12_putWork 41 = .ok (.iload_n 2, 1) := by decide +kernel
theorem dX12_putWork_42 : decode cX12_putWork 42 = .ok (.iadd, 1) := by decide +kernel
theorem dX12_putWork_43 : decode cX12_putWork 43 = .ok (.invokevirtual 560, 3) := by decide +kernel
theorem dX12_putWork_46 : decode cX12_putWork 46 = .ok (.istore_n 1, 1) := by decide +kernel
theorem dX12_putWork_47 : decode cX12_putWork 47 = .ok (.iinc 2 1, 3) := by decide +kernel
theorem dX12_putWork_50 : decode cX12_putWork 50 = .ok (.goto (-25), 3) := by decide +kernel
theorem dX12_putWork_53 : decode cX12_putWork 53 = .ok (.iload_n 1, 1) := by decide +kernel
theorem dX12_putWork_54 : decode cX12_putWork 54 = .ok (.ireturn, 1) := by decide +kernel
theorem dX12_isNumeric_0 : decode cX12_isNumeric 0 = .ok (.iload_n 0, 1) := by decide +kernel
theorem dX12_isNumeric_1 : decode cX12_isNumeric 1 = .ok (.invokestatic 152, 3) := by decide +kernel
theorem dX12_isNumeric_4 : decode cX12_isNumeric 4 = .ok (.ifCond .ne 9, 3) := by decide +kernel
theorem dX12_isNumeric_7 : decode cX12_isNumeric 7 = .ok (.iload_n 0, 1) := by decide +kernel
theorem dX12_isNumeric_8 : decode cX12_isNumeric 8 = .ok (.bipush 36, 2) := by decide +kernel
theorem dX12_isNumeric_10 : decode cX12_isNumeric 10 = .ok (.if_icmp .ne 7, 3) := by decide +kernel
theorem dX12_isNumeric_13 : decode cX12_isNumeric 13 = .ok (.iconst 1, 1) := by decide +kernel
theorem dX12_isNumeric_14 : decode cX12_isNumeric 14 = .ok (.goto 4, 3) := by decide +kernel
theorem dX12_isNumeric_17 : decode cX12_isNumeric 17 = .ok (.iconst 0, 1) := by decide +kernel
theorem dX12_isNumeric_18 : decode cX12_isNumeric 18 = .ok (.ireturn, 1) := by decide +kernel
theorem dX12_numericAt_0 : decode cX12_numericAt 0 = .ok (.aload_n 0, 1) := by decide +kernel
theorem dX12_numericAt_1 : decode cX12_numericAt 1 = .ok (.getfield 44, 3) := by decide +kernel
theorem dX12_numericAt_4 : decode cX12_numericAt 4 = .ok (.iload_n 1, 1) := by decide +kernel
theorem dX12_numericAt_5 : decode cX12_numericAt 5 = .ok (.iaload, 1) := by decide +kernel
theorem dX12_numericAt_6 : decode cX12_numericAt 6 = .ok (.bipush 36, 2) := by decide +kernel
theorem dX12_numericAt_8 : decode cX12_numericAt 8 = .ok (.if_icmp .ne 10, 3) := by decide +kernel
theorem dX12_numericAt_11 : decode cX12_numericAt 11 = .ok (.aload_n 0, 1) := by decide +kernel
theorem dX12_numericAt_12 : decode cX12_numericAt 12 = .ok (.getfield 563, 3) := by decide +kernel
theorem dX12_numericAt_15 : decode cX12_numericAt 15 = .ok (.goto 8, 3) := by decide +kernel
theorem dX12_numericAt_18 : decode cX12_numericAt 18 = .ok (.aload_n 0, 1) := by decide +kernel
theorem dX12_numericAt_19 : decode cX12_numericAt 19 = .ok (.iload_n 1, 1) := by decide +kernel
theorem dX12_numericAt_20 : decode cX12_numericAt 20 = .ok (.invokevirtual 301, 3) := by decide +kernel
theorem dX12_numericAt_23 : decode cX12_numericAt 23 = .ok (.istore_n 2, 1) := by decide +kernel
theorem dX12_numericAt_24 : decode cX12_numericAt 24 = .ok (.aload_n 0, 1) := by decide +kernel
theorem dX12_numericAt_25 : decode cX12_numericAt 25 = .ok (.getfield 44, 3) := by decide +kernel
theorem dX12_numericAt_28 : decode cX12_numericAt 28 = .ok (.iload_n 1, 1) := by decide +kernel
theorem dX12_numericAt_29 : decode cX12_numericAt 29 = .ok (.iaload, 1) := by decide +kernel
theorem dX12_numericAt_30 : decode cX12_numericAt 30 = .ok (.bipush 36, 2) := by decide +kernel
theorem dX12_numericAt_32 : decode cX12_numericAt 32 = .ok (.if_icmp .ne 9, 3) := by decide +kernel
theorem dX12_numericAt_35 : decode cX12_numericAt 35 = .ok (.iload_n 1, 1) := by decide +kernel
theorem dX12_numericAt_36 : decode cX12_numericAt 36 = .ok (.iconst 1, 1) := by decide +kernel
theorem dX12_numericAt_37 : decode cX12_numericAt 37 = .ok (.iadd, 1) := by decide +kernel
theorem dX12_numericAt_38 : decode cX12_numericAt 38 = .ok (.goto 8, 3) := by decide +kernel
theorem dX12_numericAt_41 : decode cX12_numericAt 41 = .ok (.aload_n 0, 1) := by decide +kernel
theorem dX12_numericAt_42 : decode cX12_numericAt 42 = .ok (.iload_n 1, 1) := by decide +kernel
theorem dX12_numericAt_43 : decode cX12_numericAt 43 = .ok (.invokevirtual 304, 3) := by decide +kernel
theorem dX12_numericAt_46 : decode cX12_numericAt 46 = .ok (.istore_n 3, 1) := by decide +kernel
theorem dX12_numericAt_47 : decode cX12_numericAt 47 = .ok (.iload_n 3, 1) := by decide +kernel
theorem dX12_numericAt_48 : decode cX12_numericAt 48 = .ok (.aload_n 0, 1) := by decide +kernel
theorem dX12_numericAt_49 : decode cX12_numericAt 49 = .ok (.getfield 146, 3) := by decide +kernel
theorem dX12_numericAt_52 : decode cX12_numericAt 52 = .ok (.if_icmp .ge 68, 3) := by decide +kernel
theorem dX12_numericAt_55 : decode cX12_numericAt 55 = .ok (.aload_n 0, 1) := by decide +kernel
theorem dX12_numericAt_56 : decode cX12_numericAt 56 = .ok (.getfield 44, 3) := by decide +kernel
theorem dX12_numericAt_59 : decode cX12_numericAt 59 = .ok (.iload_n 3, 1) := by decide +kernel
theorem dX12_numericAt_60 : decode cX12_numericAt 60 = .ok (.iaload, 1) := by decide +kernel
theorem dX12_numericAt_61 : decode cX12_numericAt 61 = .ok (.bipush 43, 2) := by decide +kernel
theorem dX12_numericAt_63 : decode cX12_numericAt 63 = .ok (.if_icmp .eq 14, 3) := by decide +kernel
theorem dX12_numericAt_66 : decode cX12_numericAt 66 = .ok (.aload_n 0, 1) := by decide +kernel
theorem dX12_numericAt_67 : decode cX12_numericAt 67 = .ok (.getfield 44, 3) := by decide +kernel
theorem dX12_numericAt_70 : decode cX12_numericAt 70 = .ok (.iload_n 3, 1) := by decide +kernel
theorem dX12_numericAt_71 : decode cX12_numericAt 71 = .ok (.iaload, 1) := by decide +kernel
theorem dX12_numericAt_72 : decode cX12_numericAt 72 = .ok (.bipush 45, 2) := by decide +kernel
theorem dX12_numericAt_74 : decode cX12_numericAt 74 = .ok (.if_icmp .ne 46, 3) := by decide +kernel
theorem dX12_numericAt_77 : decode cX12_numericAt 77 = .ok (.iload_n 2, 1) := by decide +kernel
theorem dX12_numericAt_78 : decode cX12_numericAt 78 = .ok (.aload_n 0, 1) := by decide +kernel
theorem dX12_numericAt_79 : decode cX12_numericAt 79 = .ok (.getfield 44, 3) := by decide +kernel
theorem dX12_numericAt_82 : decode cX12_numericAt 82 = .ok (.iload_n 3, 1) := by decide +kernel
theorem dX12_numericAt_83 : decode cX12_numericAt 83 = .ok (.iaload, 1) := by decide +kernel
theorem dX12_numericAt_84 : decode cX12_numericAt 84 = .ok (.bipush 43, 2) := by decide +kernel
theorem dX12_numericAt_86 : decode cX12_numericAt 86 = .ok (.if_icmp .ne 13, 3) := by decide +kernel
theorem dX12_numericAt_89 : decode cX12_numericAt 89 = .ok (.aload_n 0, 1) := by decide +kernel
theorem dX12_numericAt_90 : decode cX12_numericAt 90 = .ok (.iload_n 3, 1) := by decide +kernel
theorem dX12_numericAt_91 : decode cX12_numericAt 91 = .ok (.iconst 1, 1) := by decide +kernel
theorem dX12_numericAt_92 : decode cX12_numericAt 92 = .ok (.iadd, 1) := by decide +kernel
theorem dX12_numericAt_93 : decode cX12_numericAt 93 = .ok (.invokevirtual 301, 3) := by decide +kernel
theorem dX12_numericAt_96 : decode cX12_numericAt 96 = .ok (.goto 11, 3) := by decide +kernel
theorem dX12_numericAt_99 : decode cX12_numericAt 99 = .ok (.aload_n 0, 1) := by decide +kernel
theorem dX12_numericAt_100 : decode cX12_numericAt 100 = .ok (.iload_n 3, 1) := by decide +kernel
theorem dX12_numericAt_101 : decode cX12_numericAt 101 = .ok (.iconst 1, 1) := by decide +kernel
theorem dX12_numericAt_102 : decode cX12_numericAt 102 = .ok (.iadd, 1) := by decide +kernel
theorem dX12_numericAt_103 : decode cX12_numericAt 103 = .ok (.invokevirtual 301, 3) := by decide +kernel
theorem dX12_numericAt_106 : decode cX12_numericAt 106 = .ok (.ineg, 1) := by decide +kernel
theorem dX12_numericAt_107 : decode cX12_numericAt 107 = .ok (.iadd, 1) := by decide +kernel
theorem dX12_numericAt_108 : decode cX12_numericAt 108 = .ok (.istore_n 2, 1) := by decide +kernel
theorem dX12_numericAt_109 : decode cX12_numericAt 109 = .ok (.aload_n 0, 1) := by decide +kernel
theorem dX12_numericAt_110 : decode cX12_numericAt 110 = .ok (.iload_n 3, 1) := by decide +kernel
theorem dX12_numericAt_111 : decode cX12_numericAt 111 = .ok (.iconst 1, 1) := by decide +kernel
theorem dX12_numericAt_112 : decode cX12_numericAt 112 = .ok (.iadd, 1) := by decide +kernel
theorem dX12_numericAt_113 : decode cX12_numericAt 113 = .ok (.invokevirtual 304, 3) := by decide +kernel
theorem dX12_numericAt_116 : decode cX12_numericAt 116 = .ok (.istore_n 3, 1) := by decide +kernel
theorem dX12_numericAt_117 : decode cX12_numericAt 117 = .ok (.goto (-70), 3) := by decide +kernel
theorem dX12_numericAt_120 : decode cX12_numericAt 120 = .ok (.iload_n 2, 1) := by decide +kernel
theorem dX12_numericAt_121 : decode cX12_numericAt 121 = .ok (.ireturn, 1) := by decide +kernel
theorem dX12_holds_0 : decode cX12_holds 0 = .ok (.aload_n 0, 1) := by decide +kernel
theorem dX12_holds_1 : decode cX12_holds 1 = .ok (.getfield 44, 3) := by decide +kernel
theorem dX12_holds_4 : decode cX12_holds 4 = .ok (.iload_n 1, 1) := by decide +kernel
theorem dX12_holds_5 : decode cX12_holds 5 = .ok (.iaload, 1) := by decide +kernel
theorem dX12_holds_6 : decode cX12_holds 6 = .ok (.istore_n 2, 1) := by decide +kernel
theorem dX12_holds_7 : decode cX12_holds 7 = .ok (.iload_n 2, 1) := by decide +kernel
theorem dX12_holds_8 : decode cX12_holds 8 = .ok (.invokestatic 566, 3) := by decide +kernel
theorem dX12_holds_11 : decode cX12_holds 11 = .ok (.ifCond .eq 21, 3) := by decide +kernel
theorem dX12_holds_14 : decode cX12_holds 14 = .ok (.aload_n 0, 1) := by decide +kernel
theorem dX12_holds_15 : decode cX12_holds 15 = .ok (.getfield 551, 3) := by decide +kernel
theorem dX12_holds_18 : decode cX12_holds 18 = .ok (.aload_n 0, 1) := by decide +kernel
theorem dX12_holds_19 : decode cX12_holds 19 = .ok (.iload_n 1, 1) := by decide +kernel
theorem dX12_holds_20 : decode cX12_holds 20 = .ok (.invokevirtual 569, 3) := by decide +kernel
theorem dX12_holds_23 : decode cX12_holds 23 = .ok (.if_icmp .ne 7, 3) := by decide +kernel
theorem dX12_holds_26 : decode cX12_holds 26 = .ok (.iconst 1, 1) := by decide +kernel
theorem dX12_holds_27 : decode cX12_holds 27 = .ok (.goto 4, 3) := by decide +kernel
theorem dX12_holds_30 : decode cX12_holds 30 = .ok (.iconst 0, 1) := by decide +kernel
theorem dX12_holds_31 : decode cX12_holds 31 = .ok (.ireturn, 1) := by decide +kernel
theorem dX12_holds_32 : decode cX12_holds 32 = .ok (.iload_n 2, 1) := by decide +kernel
theorem dX12_holds_33 : decode cX12_holds 33 = .ok (.bipush 39, 2) := by decide +kernel
theorem dX12_holds_35 : decode cX12_holds 35 = .ok (.if_icmp .ne 32, 3) := by decide +kernel
theorem dX12_holds_38 : decode cX12_holds 38 = .ok (.aload_n 0, 1) := by decide +kernel
theorem dX12_holds_39 : decode cX12_holds 39 = .ok (.getfield 35, 3) := by decide +kernel
theorem dX12_holds_42 : decode cX12_holds 42 = .ok (.aload_n 0, 1) := by decide +kernel
theorem dX12_holds_43 : decode cX12_holds 43 = .ok (.getfield 44, 3) := by decide +kernel
theorem dX12_holds_46 : decode cX12_holds 46 = .ok (.iload_n 1, 1) := by decide +kernel
theorem dX12_holds_47 : decode cX12_holds 47 = .ok (.iconst 1, 1) := by decide +kernel
theorem dX12_holds_48 : decode cX12_holds 48 = .ok (.iadd, 1) := by decide +kernel
theorem dX12_holds_49 : decode cX12_holds 49 = .ok (.iaload, 1) := by decide +kernel
theorem dX12_holds_50 : decode cX12_holds 50 = .ok (.bipush 97, 2) := by decide +kernel
theorem dX12_holds_52 : decode cX12_holds 52 = .ok (.isub, 1) := by decide +kernel
theorem dX12_holds_53 : decode cX12_holds 53 = .ok (.iaload, 1) := by decide +kernel
theorem dX12_holds_54 : decode cX12_holds 54 = .ok (.aload_n 0, 1) := by decide +kernel
theorem dX12_holds_55 : decode cX12_holds 55 = .ok (.getfield 548, 3) := by decide +kernel
theorem dX12_holds_58 : decode cX12_holds 58 = .ok (.if_icmp .ne 7, 3) := by decide +kernel
theorem dX12_holds_61 : decode cX12_holds 61 = .ok (.iconst 1, 1) := by decide +kernel
theorem dX12_holds_62 : decode cX12_holds 62 = .ok (.goto 4, 3) := by decide +kernel
theorem dX12_holds_65 : decode cX12_holds 65 = .ok (.iconst 0, 1) := by decide +kernel
theorem dX12_holds_66 : decode cX12_holds 66 = .ok (.ireturn, 1) := by decide +kernel
theorem dX12_holds_67 : decode cX12_holds 67 = .ok (.iload_n 2, 1) := by decide +kernel
theorem dX12_holds_68 : decode cX12_holds 68 = .ok (.bipush 46, 2) := by decide +kernel
theorem dX12_holds_70 : decode cX12_holds 70 = .ok (.if_icmp .ne 5, 3) := by decide +kernel
theorem dX12_holds_73 : decode cX12_holds 73 = .ok (.iconst 1, 1) := by decide +kernel
theorem dX12_holds_74 : decode cX12_holds 74 = .ok (.ireturn, 1) := by decide +kernel
theorem dX12_holds_75 : decode cX12_holds 75 = .ok (.aload_n 0, 1) := by decide +kernel
theorem dX12_holds_76 : decode cX12_holds 76 = .ok (.iload_n 1, 1) := by decide +kernel
theorem dX12_holds_77 : decode cX12_holds 77 = .ok (.iconst 1, 1) := by decide +kernel
theorem dX12_holds_78 : decode cX12_holds 78 = .ok (.iadd, 1) := by decide +kernel
theorem dX12_holds_79 : decode cX12_holds 79 = .ok (.iload_n 2, 1) := by decide +kernel
theorem dX12_holds_80 : decode cX12_holds 80 = .ok (.invokevirtual 310, 3) := by decide +kernel
theorem dX12_holds_83 : decode cX12_holds 83 = .ok (.aload_n 0, 1) := by decide +kernel
theorem dX12_holds_84 : decode cX12_holds 84 = .ok (.sipush 429, 3) := by decide +kernel
theorem dX12_holds_87 : decode cX12_holds 87 = .ok (.iconst 0, 1) := by decide +kernel
theorem dX12_holds_88 : decode cX12_holds 88 = .ok (.invokevirtual 292, 3) := by decide +kernel
theorem dX12_holds_91 : decode cX12_holds 91 = .ok (.ireturn, 1) := by decide +kernel
theorem dX12_isBarredAddress_0 : decode cX12_isBarredAddress 0 = .ok (.aload_n 0, 1) := by decide +kernel
theorem dX12_isBarredAddress_1 : decode cX12_isBarredAddress 1 = .ok (.getfield 44, 3) := by decide +kernel
theorem dX12_isBarredAddress_4 : decode cX12_isBarredAddress 4 = .ok (.iload_n 1, 1) := by decide +kernel
theorem dX12_isBarredAddress_5 : decode cX12_isBarredAddress 5 = .ok (.iaload, 1) := by decide +kernel
theorem dX12_isBarredAddress_6 : decode cX12_isBarredAddress 6 = .ok (.istore_n 2, 1) := by decide +kernel
theorem dX12_isBarredAddress_7 : decode cX12_isBarredAddress 7 = .ok (.iload_n 2, 1) := by decide +kernel
theorem dX12_isBarredAddress_8 : decode cX12_isBarredAddress 8 = .ok (.invokestatic 566, 3) := by decide +kernel
theorem dX12_isBarredAddress_11 : decode cX12_isBarredAddress 11 = .ok (.ifCond .eq 5, 3) := by decide +kernel
theorem dX12_isBarredAddress_14 : decode cX12_isBarredAddress 14 = .ok (.iconst 0, 1) := by decide +kernel
theorem dX12_isBarredAddress_15 : decode cX12_isBarredAddress 15 = .ok (.ireturn, 1) := by decide +kernel
theorem dX12_isBarredAddress_16 : decode cX12_isBarredAddress 16 = .ok (.iload_n 1, 1) := by decide +kernel
theorem dX12_isBarredAddress_17 : decode cX12_isBarredAddress 17 = .ok (.iconst 1, 1) := by decide +kernel
theorem dX12_isBarredAddress_18 : decode cX12_isBarredAddress 18 = .ok (.iadd, 1) := by decide +kernel
theorem dX12_isBarredAddress_19 : decode cX12_isBarredAddress 19 = .ok (.istore_n 3, 1) := by decide +kernel
theorem dX12_isBarredAddress_20 : decode cX12_isBarredAddress 20 = .ok (.iload_n 2, 1) := by decide +kernel
theorem dX12_isBarredAddress_21 : decode cX12_isBarredAddress 21 = .ok (.bipush 39, 2) := by decide +kernel
theorem dX12_isBarredAddress_23 : decode cX12_isBarredAddress 23 = .ok (.if_icmp .ne 10, 3) := by decide +kernel
theorem dX12_isBarredAddress_26 : decode cX12_isBarredAddress 26 = .ok (.iload_n 1, 1) := by decide +kernel
theorem dX12_isBarredAddress_27 : decode cX12_isBarredAddress 27 = .ok (.iconst 2, 1) := by decide +kernel
theorem dX12_isBarredAddress_28 : decode cX12_isBarredAddress 28 = .ok (.iadd, 1) := by decide +kernel
theorem dX12_isBarredAddress_29 : decode cX12_isBarredAddress 29 = .ok (.istore_n 3, 1) := by decide +kernel
theorem dX12_isBarredAddress_30 : decode cX12_isBarredAddress 30 = .ok (.goto 24, 3) := by decide +kernel
theorem dX12_isBarredAddress_33 : decode cX12_isBarredAddress 33 = .ok (.iload_n 2, 1) := by decide +kernel
theorem dX12_isBarredAddress_34 : decode cX12_isBarredAddress 34 = .ok (.bipush 46, 2) := by decide +kernel
theorem dX12_isBarredAddress_36 : decode cX12_isBarredAddress 36 = .ok (.if_icmp .eq 18, 3) := by decide +kernel
theorem dX12_isBarredAddress_39 : decode cX12_isBarredAddress 39 = .ok (.aload_n 0, 1) := by decide +kernel
theorem dX12_isBarredAddress_40 : decode cX12_isBarredAddress 40 = .ok (.iload_n 1, 1) := by decide +kernel
theorem dX12_isBarredAddress_41 : decode cX12_isBarredAddress 41 = .ok (.iconst 1, 1) := by decide +kernel
theorem dX12_isBarredAddress_42 : decode cX12_isBarredAddress 42 = .ok (.iadd, 1) := by decide +kernel
theorem dX12_isBarredAddress_43 : decode cX12_isBarredAddress 43 = .ok (.iload_n 2, 1) := by decide +kernel
theorem dX12_isBarredAddress_44 : decode cX12_isBarredAddress 44 = .ok (.invokevirtual 310, 3) := by decide +kernel
theorem dX12_isBarredAddress_47 : decode cX12_isBarredAddress 47 = .ok (.aload_n 0, 1) := by decide +kernel
theorem dX12_isBarredAddress_48 : decode cX12_isBarredAddress 48 = .ok (.getfield 268, 3) := by decide +kernel
theorem dX12_isBarredAddress_51 : decode cX12_isBarredAddress 51 = .ok (.iconst 1, 1) := by decide +kernel
theorem dX12_isBarredAddress_52 : decode cX12_isBarredAddress 52 = .ok (.iadd, 1) := by decide +kernel
theorem dX12_isBarredAddress_53 : decode cX12_isBarredAddress 53 = .ok (.istore_n 3, 1) := by decide +kernel
theorem dX12_isBarredAddress_54 : decode cX12_isBarredAddress 54 = .ok (.iload_n 3, 1) := by decide +kernel
theorem dX12_isBarredAddress_55 : decode cX12_isBarredAddress 55 = .ok (.aload_n 0, 1) := by decide +kernel
theorem dX12_isBarredAddress_56 : decode cX12_isBarredAddress 56 = .ok (.getfield 146, 3) := by decide +kernel
theorem dX12_isBarredAddress_59 : decode cX12_isBarredAddress 59 = .ok (.if_icmp .ge 29, 3) := by decide +kernel
theorem dX12_isBarredAddress_62 : decode cX12_isBarredAddress 62 = .ok (.aload_n 0, 1) := by decide +kernel
theorem dX12_isBarredAddress_63 : decode cX12_isBarredAddress 63 = .ok (.getfield 44, 3) := by decide +kernel
theorem dX12_isBarredAddress_66 : decode cX12_isBarredAddress 66 = .ok (.iload_n 3, 1) := by decide +kernel
theorem dX12_isBarredAddress_67 : decode cX12_isBarredAddress 67 = .ok (.iaload, 1) := by decide +kernel
theorem dX12_isBarredAddress_68 : decode cX12_isBarredAddress 68 = .ok (.bipush 43, 2) := by decide +kernel
theorem dX12_isBarredAddress_70 : decode cX12_isBarredAddress 70 = .ok (.if_icmp .eq 14, 3) := by decide +kernel
theorem dX12_isBarredAddress_73 : decode cX12_isBarredAddress 73 = .ok (.aload_n 0, 1) := by decide +kernel
theorem dX12_isBarredAddress_74 : decode cX12_isBarredAddress 74 = .ok (.getfield 44, 3) := by decide +kernel
theorem dX12_isBarredAddress_77 : decode cX12_isBarredAddress 77 = .ok (.iload_n 3, 1) := by decide +kernel
theorem dX12_isBarredAddress_78 : decode cX12_isBarredAddress 78 = .ok (.iaload, 1) := by decide +kernel
theorem dX12_isBarredAddress_79 : decode cX12_isBarredAddress 79 = .ok (.bipush 45, 2) := by decide +kernel
theorem dX12_isBarredAddress_81 : decode cX12_isBarredAddress 81 = .ok (.if_icmp .ne 7, 3) := by decide +kernel
theorem dX12_isBarredAddress_84 : decode cX12_isBarredAddress 84 = .ok (.iconst 1, 1) := by decide +kernel
theorem dX12_isBarredAddress_85 : decode cX12_isBarredAddress 85 = .ok (.goto 4, 3) := by decide +kernel
theorem dX12_isBarredAddress_88 : decode cX12_isBarredAddress 88 = .ok (.iconst 0, 1) := by decide +kernel
theorem dX12_isBarredAddress_89 : decode cX12_isBarredAddress 89 = .ok (.ireturn, 1) := by decide +kernel
theorem dX12_isBarred_0 : decode cX12_isBarred 0 = .ok (.aload_n 0, 1) := by decide +kernel
theorem dX12_isBarred_1 : decode cX12_isBarred 1 = .ok (.getfield 44, 3) := by decide +kernel
theorem dX12_isBarred_4 : decode cX12_isBarred 4 = .ok (.aload_n 0, 1) := by decide +kernel
theorem dX12_isBarred_5 : decode cX12_isBarred 5 = .ok (.getfield 218, 3) := by decide +kernel
theorem dX12_isBarred_8 : decode cX12_isBarred 8 = .ok (.iaload, 1) := by decide +kernel
theorem dX12_isBarred_9 : decode cX12_isBarred 9 = .ok (.istore_n 1, 1) := by decide +kernel
theorem dX12_isBarred_10 : decode cX12_isBarred 10 = .ok (.iload_n 1, 1) := by decide +kernel
theorem dX12_isBarred_11 : decode cX12_isBarred 11 = .ok (.bipush 108, 2) := by decide +kernel
theorem dX12_isBarred_13 : decode cX12_isBarred 13 = .ok (.if_icmp .eq 27, 3) := by decide +kernel
theorem dX12_isBarred_16 : decode cX12_isBarred 16 = .ok (.iload_n 1, 1) := by decide +kernel
theorem dX12_isBarred_17 : decode cX12_isBarred 17 = .ok (.bipush 111, 2) := by decide +kernel
theorem dX12_isBarred_19 : decode cX12_isBarred 19 = .ok (.if_icmp .eq 21, 3) := by decide +kernel
theorem dX12_isBarred_22 : decode cX12_isBarred 22 = .ok (.iload_n 1, 1) := by decide +kernel
theorem dX12_isBarred_23 : decode cX12_isBarred 23 = .ok (.bipush 79, 2) := by decide +kernel
theorem dX12_isBarred_25 : decode cX12_isBarred 25 = .ok (.if_icmp .eq 15, 3) := by decide +kernel
theorem dX12_isBarred_28 : decode cX12_isBarred 28 = .ok (.iload_n 1, 1) := by decide +kernel
theorem dX12_isBarred_29 : decode cX12_isBarred 29 = .ok (.bipush 109, 2) := by decide +kernel
theorem dX12_isBarred_31 : decode cX12_isBarred 31 = .ok (.if_icmp .eq 9, 3) := by decide +kernel
theorem dX12_isBarred_34 : decode cX12_isBarred 34 = .ok (.iload_n 1, 1) := by decide +kernel
theorem dX12_isBarred_35 : decode cX12_isBarred 35 = .ok (.bipush 116, 2) := by decide +kernel
theorem dX12_isBarred_37 : decode cX12_isBarred 37 = .ok (.if_icmp .ne 7, 3) := by decide +kernel
theorem dX12_isBarred_40 : decode cX12_isBarred 40 = .ok (.iconst 1, 1) := by decide +kernel
theorem dX12_isBarred_41 : decode cX12_isBarred 41 = .ok (.goto 4, 3) := by decide +kernel
theorem dX12_isBarred_44 : decode cX12_isBarred 44 = .ok (.iconst 0, 1) := by decide +kernel
theorem dX12_isBarred_45 : decode cX12_isBarred 45 = .ok (.istore_n 2, 1) := by decide +kernel
theorem dX12_isBarred_46 : decode cX12_isBarred 46 = .ok (.iload_n 2, 1) := by decide +kernel
theorem dX12_isBarred_47 : decode cX12_isBarred 47 = .ok (.ifCond .ne 41, 3) := by decide +kernel
theorem dX12_isBarred_50 : decode cX12_isBarred 50 = .ok (.aload_n 0, 1) := by decide +kernel
theorem dX12_isBarred_51 : decode cX12_isBarred 51 = .ok (.getfield 203, 3) := by decide +kernel
theorem dX12_isBarred_54 : decode cX12_isBarred 54 = .ok (.iconst 2, 1) := by decide +kernel
theorem dX12_isBarred_55 : decode cX12_isBarred 55 = .ok (.if_icmp .lt 14, 3) := by decide +kernel
theorem dX12_isBarred_58 : decode cX12_isBarred 58 = .ok (.aload_n 0, 1) := by decide +kernel
theorem dX12_isBarred_59 : decode cX12_isBarred 59 = .ok (.aload_n 0, 1) := by decide +kernel
theorem dX12_isBarred_60 : decode cX12_isBarred 60 = .ok (.getfield 209, 3) := by decide +kernel
theorem dX12_isBarred_63 : decode cX12_isBarred 63 = .ok (.invokevirtual 572, 3) := by decide +kernel
theorem dX12_isBarred_66 : decode cX12_isBarred 66 = .ok (.ifCond .ne 22, 3) := by decide +kernel
theorem dX12_isBarred_69 : decode cX12_isBarred 69 = .ok (.aload_n 0, 1) := by decide +kernel
theorem dX12_isBarred_70 : decode cX12_isBarred 70 = .ok (.getfield 203, 3) := by decide +kernel
theorem dX12_isBarred_73 : decode cX12_isBarred 73 = .ok (.iconst 3, 1) := by decide +kernel
theorem dX12_isBarred_74 : decode cX12_isBarred 74 = .ok (.if_icmp .ne 18, 3) := by decide +kernel
theorem dX12_isBarred_77 : decode cX12_isBarred 77 = .ok (.aload_n 0, 1) := by decide +kernel
theorem dX12_isBarred_78 : decode cX12_isBarred 78 = .ok (.aload_n 0, 1) := by decide +kernel
theorem dX12_isBarred_79 : decode cX12_isBarred 79 = .ok (.getfield 215, 3) := by decide +kernel
theorem dX12_isBarred_82 : decode cX12_isBarred 82 = .ok (.invokevirtual 572, 3) := by decide +kernel
theorem dX12_isBarred_85 : decode cX12_isBarred 85 = .ok (.ifCond .eq 7, 3) := by decide +kernel
theorem dX12_isBarred_88 : decode cX12_isBarred 88 = .ok (.iconst 1, 1) := by decide +kernel
theorem dX12_isBarred_89 : decode cX12_isBarred 89 = .ok (.goto 4, 3) := by decide +kernel
theorem dX12_isBarred_92 : decode cX12_isBarred 92 = .ok (.iconst 0, 1) := by decide +kernel
theorem dX12_isBarred_93 : decode cX12_isBarred 93 = .ok (.ireturn, 1) := by decide +kernel
theorem dX12_runHolds_0 : decode cX12_runHolds 0 = .ok (.aload_n 0, 1) := by decide +kernel
theorem dX12_runHolds_1 : decode cX12_runHolds 1 = .ok (.getfield 44, 3) := by decide +kernel
theorem dX12_runHolds_4 : decode cX12_runHolds 4 = .ok (.aload_n 0, 1) := by decide +kernel
theorem dX12_runHolds_5 : decode cX12_runHolds 5 = .ok (.getfield 215, 3) := by decide +kernel
theorem dX12_runHolds_8 : decode cX12_runHolds 8 = .ok (.iaload, 1) := by decide +kernel
theorem dX12_runHolds_9 : decode cX12_runHolds 9 = .ok (.invokestatic 566, 3) := by decide +kernel
theorem dX12_runHolds_12 : decode cX12_runHolds 12 = .ok (.istore_n 2, 1) := by decide +kernel
theorem dX12_runHolds_13 : decode cX12_runHolds 13 = .ok (.iload_n 2, 1) := by decide +kernel
theorem dX12_runHolds_14 : decode cX12_runHolds 14 = .ok (.ifCond .eq 14, 3) := by decide +kernel
theorem dX12_runHolds_17 : decode cX12_runHolds 17 = .ok (.aload_n 0, 1) := by decide +kernel
theorem dX12_runHolds_18 : decode cX12_runHolds 18 = .ok (.aload_n 0, 1) := by decide +kernel
theorem dX12_runHolds_19 : decode cX12_runHolds 19 = .ok (.getfield 215, 3) := by decide +kernel
theorem dX12_runHolds_22 : decode cX12_runHolds 22 = .ok (.invokevirtual 569, 3) := by decide +kernel
theorem dX12_runHolds_25 : decode cX12_runHolds 25 = .ok (.goto 4, 3) := by decide +kernel
theorem dX12_runHolds_28 : decode cX12_runHolds 28 = .ok (.iconst 0, 1) := by decide +kernel
theorem dX12_runHolds_29 : decode cX12_runHolds 29 = .ok (.istore_n 3, 1) := by decide +kernel
theorem dX12_runHolds_30 : decode cX12_runHolds 30 = .ok (.aload_n 0, 1) := by decide +kernel
theorem dX12_runHolds_31 : decode cX12_runHolds 31 = .ok (.getfield 90, 3) := by decide +kernel
theorem dX12_runHolds_34 : decode cX12_runHolds 34 = .ok (.iload_n 1, 1) := by decide +kernel
theorem dX12_runHolds_35 : decode cX12_runHolds 35 = .ok (.baload, 1) := by decide +kernel
theorem dX12_runHolds_36 : decode cX12_runHolds 36 = .ok (.ifCond .eq 22, 3) := by decide +kernel
theorem dX12_runHolds_39 : decode cX12_runHolds 39 = .ok (.iload_n 2, 1) := by decide +kernel
theorem dX12_runHolds_40 : decode cX12_runHolds 40 = .ok (.ifCond .eq 18, 3) := by decide +kernel
theorem dX12_runHolds_43 : decode cX12_runHolds 43 = .ok (.aload_n 0, 1) := by decide +kernel
theorem dX12_runHolds_44 : decode cX12_runHolds 44 = .ok (.getfield 551, 3) := by decide +kernel
theorem dX12_runHolds_47 : decode cX12_runHolds 47 = .ok (.iload_n 3, 1) := by decide +kernel
theorem dX12_runHolds_48 : decode cX12_runHolds 48 = .ok (.if_icmp .le 10, 3) := by decide +kernel
theorem dX12_runHolds_51 : decode cX12_runHolds 51 = .ok (.aload_n 0, 1) := by decide +kernel
theorem dX12_runHolds_52 : decode cX12_runHolds 52 = .ok (.getfield 90, 3) := by decide +kernel
theorem dX12_runHolds_55 : decode cX12_runHolds 55 = .ok (.iload_n 1, 1) := by decide +kernel
theorem dX12_runHolds_56 : decode cX12_runHolds 56 = .ok (.iconst 0, 1) := by decide +kernel
theorem dX12_runHolds_57 : decode cX12_runHolds 57 = .ok (.bastore, 1) := by decide +kernel
theorem dX12_runHolds_58 : decode cX12_runHolds 58 = .ok (.aload_n 0, 1) := by decide +kernel
theorem dX12_runHolds_59 : decode cX12_runHolds 59 = .ok (.getfield 90, 3) := by decide +kernel
theorem dX12_runHolds_62 : decode cX12_runHolds 62 = .ok (.iload_n 1, 1) := by decide +kernel
theorem dX12_runHolds_63 : decode cX12_runHolds 63 = .ok (.baload, 1) := by decide +kernel
theorem dX12_runHolds_64 : decode cX12_runHolds 64 = .ok (.ifCond .eq 47, 3) := by decide +kernel
theorem dX12_runHolds_67 : decode cX12_runHolds 67 = .ok (.aload_n 0, 1) := by decide +kernel
theorem dX12_runHolds_68 : decode cX12_runHolds 68 = .ok (.getfield 90, 3) := by decide +kernel
theorem dX12_runHolds_71 : decode cX12_runHolds 71 = .ok (.iload_n 1, 1) := by decide +kernel
theorem dX12_runHolds_72 : decode cX12_runHolds 72 = .ok (.iload_n 2, 1) := by decide +kernel
theorem dX12_runHolds_73 : decode cX12_runHolds 73 = .ok (.ifCond .eq 19, 3) := by decide +kernel
theorem dX12_runHolds_76 : decode cX12_runHolds 76 = .ok (.aload_n 0, 1) := by decide +kernel
theorem dX12_runHolds_77 : decode cX12_runHolds 77 = .ok (.getfield 551, 3) := by decide +kernel
theorem dX12_runHolds_80 : decode cX12_runHolds 80 = .ok (.iload_n 3, 1) := by decide +kernel
theorem dX12_runHolds_81 : decode cX12_runHolds 81 = .ok (.if_icmp .ge 7, 3) := by decide +kernel
theorem dX12_runHolds_84 : decode cX12_runHolds 84 = .ok (.iconst 1, 1) := by decide +kernel
theorem dX12_runHolds_85 : decode cX12_runHolds 85 = .ok (.goto 23, 3) := by decide +kernel
theorem dX12_runHolds_88 : decode cX12_runHolds 88 = .ok (.iconst 0, 1) := by decide +kernel
theorem dX12_runHolds_89 : decode cX12_runHolds 89 = .ok (.goto 19, 3) := by decide +kernel
theorem dX12_runHolds_92 : decode cX12_runHolds 92 = .ok (.aload_n 0, 1) := by decide +kernel
theorem dX12_runHolds_93 : decode cX12_runHolds 93 = .ok (.aload_n 0, 1) := by decide +kernel
theorem dX12_runHolds_94 : decode cX12_runHolds 94 = .ok (.getfield 215, 3) := by decide +kernel
theorem dX12_runHolds_97 : decode cX12_runHolds 97 = .ok (.invokevirtual 575, 3) := by decide +kernel
theorem dX12_runHolds_100 : decode cX12_runHolds 100 = .ok (.ifCond .ne 7, 3) := by decide +kernel
theorem dX12_runHolds_103 : decode cX12_runHolds 103 = .ok (.iconst 1, 1) := by decide +kernel
theorem dX12_runHolds_104 : decode cX12_runHolds 104 = .ok (.goto 4, 3) := by decide +kernel
theorem dX12_runHolds_107 : decode cX12_runHolds 107 = .ok (.iconst 0, 1) := by decide +kernel
theorem dX12_runHolds_108 : decode cX12_runHolds 108 = .ok (.bastore, 1) := by decide +kernel
theorem dX12_runHolds_109 : decode cX12_runHolds 109 = .ok (.iconst 1, 1) := by decide +kernel
theorem dX12_runHolds_110 : decode cX12_runHolds 110 = .ok (.ireturn, 1) := by decide +kernel
theorem dX12_runHolds_111 : decode cX12_runHolds 111 = .ok (.aload_n 0, 1) := by decide +kernel
theorem dX12_runHolds_112 : decode cX12_runHolds 112 = .ok (.aload_n 0, 1) := by decide +kernel
theorem dX12_runHolds_113 : decode cX12_runHolds 113 = .ok (.getfield 209, 3) := by decide +kernel
theorem dX12_runHolds_116 : decode cX12_runHolds 116 = .ok (.invokevirtual 575, 3) := by decide +kernel
theorem dX12_runHolds_119 : decode cX12_runHolds 119 = .ok (.istore 4, 2) := by decide +kernel
theorem dX12_runHolds_121 : decode cX12_runHolds 121 = .ok (.aload_n 0, 1) := by decide +kernel
theorem dX12_runHolds_122 : decode cX12_runHolds 122 = .ok (.getfield 90, 3) := by decide +kernel
theorem dX12_runHolds_125 : decode cX12_runHolds 125 = .ok (.iload_n 1, 1) := by decide +kernel
theorem dX12_runHolds_126 : decode cX12_runHolds 126 = .ok (.iload 4, 2) := by decide +kernel
theorem dX12_runHolds_128 : decode cX12_runHolds 128 = .ok (.ifCond .eq 19, 3) := by decide +kernel
theorem dX12_runHolds_131 : decode cX12_runHolds 131 = .ok (.iload_n 2, 1) := by decide +kernel
theorem dX12_runHolds_132 : decode cX12_runHolds 132 = .ok (.ifCond .eq 11, 3) := by decide +kernel
theorem dX12_runHolds_135 : decode cX12_runHolds 135 = .ok (.iload_n 3, 1) := by decide +kernel
theorem dX12_runHolds_136 : decode cX12_runHolds 136 = .ok (.aload_n 0, 1) := by decide +kernel
theorem dX12_runHolds_137 : decode cX12_runHolds 137 = .ok (.getfield 551, 3) := by decide +kernel
theorem dX12_runHolds_140 : decode cX12_runHolds 140 = .ok (.if_icmp .le 7, 3) := by decide +kernel
theorem dX12_runHolds_143 : decode cX12_runHolds 143 = .ok (.iconst 1, 1) := by decide +kernel
theorem dX12_runHolds_144 : decode cX12_runHolds 144 = .ok (.goto 4, 3) := by decide +kernel
theorem dX12_runHolds_147 : decode cX12_runHolds 147 = .ok (.iconst 0, 1) := by decide +kernel
theorem dX12_runHolds_148 : decode cX12_runHolds 148 = .ok (.bastore, 1) := by decide +kernel
theorem dX12_runHolds_149 : decode cX12_runHolds 149 = .ok (.iload 4, 2) := by decide +kernel
theorem dX12_runHolds_151 : decode cX12_runHolds 151 = .ok (.ireturn, 1) := by decide +kernel
theorem dX12_whereHolds_0 : decode cX12_whereHolds 0 = .ok (.aload_n 0, 1) := by decide +kernel
theorem dX12_whereHolds_1 : decode cX12_whereHolds 1 = .ok (.getfield 203, 3) := by decide +kernel
theorem dX12_whereHolds_4 : decode cX12_whereHolds 4 = .ok (.iconst 2, 1) := by decide +kernel
theorem dX12_whereHolds_5 : decode cX12_whereHolds 5 = .ok (.if_icmp .ge 5, 3) := by decide +kernel
theorem dX12_whereHolds_8 : decode cX12_whereHolds 8 = .ok (.iconst 1, 1) := by decide +kernel
theorem dX12_whereHolds_9 : decode cX12_whereHolds 9 = .ok (.ireturn, 1) := by decide +kernel
theorem dX12_whereHolds_10 : decode cX12_whereHolds 10 = .ok (.aload_n 0, 1) := by decide +kernel
theorem dX12_whereHolds_11 : decode cX12_whereHolds 11 = .ok (.getfield 203, 3) := by decide +kernel
theorem dX12_whereHolds_14 : decode cX12_whereHolds 14 = .ok (.iconst 2, 1) := by decide +kernel
theorem dX12_whereHolds_15 : decode cX12_whereHolds 15 = .ok (.if_icmp .ne 12, 3) := by decide +kernel
theorem dX12_whereHolds_18 : decode cX12_whereHolds 18 = .ok (.aload_n 0, 1) := by decide +kernel
theorem dX12_whereHolds_19 : decode cX12_whereHolds 19 = .ok (.aload_n 0, 1) := by decide +kernel
theorem dX12_whereHolds_20 : decode cX12_whereHolds 20 = .ok (.getfield 209, 3) := by decide +kernel
theorem dX12_whereHolds_23 : decode cX12_whereHolds 23 = .ok (.invokevirtual 575, 3) := by decide +kernel
theorem dX12_whereHolds_26 : decode cX12_whereHolds 26 = .ok (.ireturn, 1) := by decide +kernel
theorem dX12_whereHolds_27 : decode cX12_whereHolds 27 = .ok (.aload_n 0, 1) := by decide +kernel
theorem dX12_whereHolds_28 : decode cX12_whereHolds 28 = .ok (.getfield 93, 3) := by decide +kernel
theorem dX12_whereHolds_31 : decode cX12_whereHolds 31 = .ok (.iload_n 1, 1) := by decide +kernel
theorem dX12_whereHolds_32 : decode cX12_whereHolds 32 = .ok (.iaload, 1) := by decide +kernel
theorem dX12_whereHolds_33 : decode cX12_whereHolds 33 = .ok (.aload_n 0, 1) := by decide +kernel
theorem dX12_whereHolds_34 : decode cX12_whereHolds 34 = .ok (.getfield 554, 3) := by decide +kernel
theorem dX12_whereHolds_37 : decode cX12_whereHolds 37 = .ok (.if_icmp .eq 24, 3) := by decide +kernel
theorem dX12_whereHolds_40 : decode cX12_whereHolds 40 = .ok (.aload_n 0, 1) := by decide +kernel
theorem dX12_whereHolds_41 : decode cX12_whereHolds 41 = .ok (.getfield 93, 3) := by decide +kernel
theorem dX12_whereHolds_44 : decode cX12_whereHolds 44 = .ok (.iload_n 1, 1) := by decide +kernel
theorem dX12_whereHolds_45 : decode cX12_whereHolds 45 = .ok (.aload_n 0, 1) := by decide +kernel
theorem dX12_whereHolds_46 : decode cX12_whereHolds 46 = .ok (.getfield 554, 3) := by decide +kernel
theorem dX12_whereHolds_49 : decode cX12_whereHolds 49 = .ok (.iastore, 1) := by decide +kernel
theorem dX12_whereHolds_50 : decode cX12_whereHolds 50 = .ok (.aload_n 0, 1) := by decide +kernel
theorem dX12_whereHolds_51 : decode cX12_whereHolds 51 = .ok (.getfield 96, 3) := by decide +kernel
theorem dX12_whereHolds_54 : decode cX12_whereHolds 54 = .ok (.iload_n 1, 1) := by decide +kernel
theorem dX12_whereHolds_55 : decode cX12_whereHolds 55 = .ok (.aload_n 0, 1) := by decide +kernel
theorem dX12_whereHolds_56 : decode cX12_whereHolds 56 = .ok (.iload_n 1, 1) := by decide +kernel
theorem dX12_whereHolds_57 : decode cX12_whereHolds 57 = .ok (.invokevirtual 578, 3) := by decide +kernel
