theorem dL_oneByOne_183 : decode cL_oneByOne 183 = .ok (.iconst 1, 1) := by decide +kernel
theorem dL_oneByOne_184 : decode cL_oneByOne 184 = .ok (.goto 4, 3) := by decide +kernel
theorem dL_oneByOne_187 : decode cL_oneByOne 187 = .ok (.iconst 0, 1) := by decide +kernel
theorem dL_oneByOne_188 : decode cL_oneByOne 188 = .ok (.istore_n 3, 1) := by decide +kernel
theorem dL_oneByOne_189 : decode cL_oneByOne 189 = .ok (.iinc 7 1, 3) := by decide +kernel
theorem dL_oneByOne_192 : decode cL_oneByOne 192 = .ok (.goto (-86), 3) := by decide +kernel
theorem dL_oneByOne_195 : decode cL_oneByOne 195 = .ok (.iload_n 3, 1) := by decide +kernel
theorem dL_oneByOne_196 : decode cL_oneByOne 196 = .ok (.ifCond .eq 17, 3) := by decide +kernel
theorem dL_oneByOne_199 : decode cL_oneByOne 199 = .ok (.aload_n 0, 1) := by decide +kernel
theorem dL_oneByOne_200 : decode cL_oneByOne 200 = .ok (.invokestatic 83, 3) := by decide +kernel
theorem dL_oneByOne_203 : decode cL_oneByOne 203 = .ok (.lload 5, 2) := by decide +kernel
theorem dL_oneByOne_205 : decode cL_oneByOne 205 = .ok (.lcmp, 1) := by decide +kernel
theorem dL_oneByOne_206 : decode cL_oneByOne 206 = .ok (.ifCond .ne 7, 3) := by decide +kernel
theorem dL_oneByOne_209 : decode cL_oneByOne 209 = .ok (.iconst 1, 1) := by decide +kernel
theorem dL_oneByOne_210 : decode cL_oneByOne 210 = .ok (.goto 4, 3) := by decide +kernel
theorem dL_oneByOne_213 : decode cL_oneByOne 213 = .ok (.iconst 0, 1) := by decide +kernel
theorem dL_oneByOne_214 : decode cL_oneByOne 214 = .ok (.ireturn, 1) := by decide +kernel
theorem dL_found_0 : decode cL_found 0 = .ok (.aload_n 0, 1) := by decide +kernel
theorem dL_found_1 : decode cL_found 1 = .ok (.invokevirtual 17, 3) := by decide +kernel
theorem dL_found_4 : decode cL_found 4 = .ok (.ifCond .lt 26, 3) := by decide +kernel
theorem dL_found_7 : decode cL_found 7 = .ok (.aload_n 0, 1) := by decide +kernel
theorem dL_found_8 : decode cL_found 8 = .ok (.ldc2_w 152, 3) := by decide +kernel
theorem dL_found_11 : decode cL_found 11 = .ok (.iconst 3, 1) := by decide +kernel
theorem dL_found_12 : decode cL_found 12 = .ok (.invokestatic 23, 3) := by decide +kernel
theorem dL_found_15 : decode cL_found 15 = .ok (.ifCond .eq 15, 3) := by decide +kernel
theorem dL_found_18 : decode cL_found 18 = .ok (.aload_n 0, 1) := by decide +kernel
theorem dL_found_19 : decode cL_found 19 = .ok (.invokevirtual 154, 3) := by decide +kernel
theorem dL_found_22 : decode cL_found 22 = .ok (.iconst (-1), 1) := by decide +kernel
theorem dL_found_23 : decode cL_found 23 = .ok (.if_icmp .ne 7, 3) := by decide +kernel
theorem dL_found_26 : decode cL_found 26 = .ok (.iconst 1, 1) := by decide +kernel
theorem dL_found_27 : decode cL_found 27 = .ok (.goto 4, 3) := by decide +kernel
theorem dL_found_30 : decode cL_found 30 = .ok (.iconst 0, 1) := by decide +kernel
theorem dL_found_31 : decode cL_found 31 = .ok (.istore_n 1, 1) := by decide +kernel
theorem dL_found_32 : decode cL_found 32 = .ok (.iconst (-1), 1) := by decide +kernel
theorem dL_found_33 : decode cL_found 33 = .ok (.istore_n 2, 1) := by decide +kernel
theorem dL_found_34 : decode cL_found 34 = .ok (.iconst 1, 1) := by decide +kernel
theorem dL_found_35 : decode cL_found 35 = .ok (.istore_n 3, 1) := by decide +kernel
theorem dL_found_36 : decode cL_found 36 = .ok (.iload_n 3, 1) := by decide +kernel
theorem dL_found_37 : decode cL_found 37 = .ok (.aload_n 0, 1) := by decide +kernel
theorem dL_found_38 : decode cL_found 38 = .ok (.invokevirtual 71, 3) := by decide +kernel
theorem dL_found_41 : decode cL_found 41 = .ok (.if_icmp .gt 46, 3) := by decide +kernel
theorem dL_found_44 : decode cL_found 44 = .ok (.iload_n 2, 1) := by decide +kernel
theorem dL_found_45 : decode cL_found 45 = .ok (.ifCond .ge 42, 3) := by decide +kernel
theorem dL_found_48 : decode cL_found 48 = .ok (.aload_n 0, 1) := by decide +kernel
theorem dL_found_49 : decode cL_found 49 = .ok (.invokevirtual 87, 3) := by decide +kernel
theorem dL_found_52 : decode cL_found 52 = .ok (.iconst 1, 1) := by decide +kernel
theorem dL_found_53 : decode cL_found 53 = .ok (.isub, 1) := by decide +kernel
theorem dL_found_54 : decode cL_found 54 = .ok (.iload_n 3, 1) := by decide +kernel
theorem dL_found_55 : decode cL_found 55 = .ok (.iadd, 1) := by decide +kernel
theorem dL_found_56 : decode cL_found 56 = .ok (.aload_n 0, 1) := by decide +kernel
theorem dL_found_57 : decode cL_found 57 = .ok (.invokevirtual 71, 3) := by decide +kernel
theorem dL_found_60 : decode cL_found 60 = .ok (.irem, 1) := by decide +kernel
theorem dL_found_61 : decode cL_found 61 = .ok (.iconst 1, 1) := by decide +kernel
theorem dL_found_62 : decode cL_found 62 = .ok (.iadd, 1) := by decide +kernel
theorem dL_found_63 : decode cL_found 63 = .ok (.istore 4, 2) := by decide +kernel
theorem dL_found_65 : decode cL_found 65 = .ok (.aload_n 0, 1) := by decide +kernel
theorem dL_found_66 : decode cL_found 66 = .ok (.iload 4, 2) := by decide +kernel
theorem dL_found_68 : decode cL_found 68 = .ok (.invokevirtual 157, 3) := by decide +kernel
theorem dL_found_71 : decode cL_found 71 = .ok (.ifCond .lt 8, 3) := by decide +kernel
theorem dL_found_74 : decode cL_found 74 = .ok (.iload 4, 2) := by decide +kernel
theorem dL_found_76 : decode cL_found 76 = .ok (.goto 4, 3) := by decide +kernel
theorem dL_found_79 : decode cL_found 79 = .ok (.iload_n 2, 1) := by decide +kernel
theorem dL_found_80 : decode cL_found 80 = .ok (.istore_n 2, 1) := by decide +kernel
theorem dL_found_81 : decode cL_found 81 = .ok (.iinc 3 1, 3) := by decide +kernel
theorem dL_found_84 : decode cL_found 84 = .ok (.goto (-48), 3) := by decide +kernel
theorem dL_found_87 : decode cL_found 87 = .ok (.iload_n 1, 1) := by decide +kernel
theorem dL_found_88 : decode cL_found 88 = .ok (.ifCond .eq 35, 3) := by decide +kernel
theorem dL_found_91 : decode cL_found 91 = .ok (.aload_n 0, 1) := by decide +kernel
theorem dL_found_92 : decode cL_found 92 = .ok (.iconst 0, 1) := by decide +kernel
theorem dL_found_93 : decode cL_found 93 = .ok (.invokevirtual 160, 3) := by decide +kernel
theorem dL_found_96 : decode cL_found 96 = .ok (.iload_n 2, 1) := by decide +kernel
theorem dL_found_97 : decode cL_found 97 = .ok (.if_icmp .ne 26, 3) := by decide +kernel
theorem dL_found_100 : decode cL_found 100 = .ok (.iload_n 2, 1) := by decide +kernel
theorem dL_found_101 : decode cL_found 101 = .ok (.ifCond .lt 18, 3) := by decide +kernel
theorem dL_found_104 : decode cL_found 104 = .ok (.aload_n 0, 1) := by decide +kernel
theorem dL_found_105 : decode cL_found 105 = .ok (.iload_n 2, 1) := by decide +kernel
theorem dL_found_106 : decode cL_found 106 = .ok (.invokevirtual 164, 3) := by decide +kernel
theorem dL_found_109 : decode cL_found 109 = .ok (.aload_n 0, 1) := by decide +kernel
theorem dL_found_110 : decode cL_found 110 = .ok (.iload_n 2, 1) := by decide +kernel
theorem dL_found_111 : decode cL_found 111 = .ok (.invokevirtual 157, 3) := by decide +kernel
theorem dL_found_114 : decode cL_found 114 = .ok (.iconst 1, 1) := by decide +kernel
theorem dL_found_115 : decode cL_found 115 = .ok (.iadd, 1) := by decide +kernel
theorem dL_found_116 : decode cL_found 116 = .ok (.if_icmp .le 7, 3) := by decide +kernel
theorem dL_found_119 : decode cL_found 119 = .ok (.iconst 1, 1) := by decide +kernel
theorem dL_found_120 : decode cL_found 120 = .ok (.goto 4, 3) := by decide +kernel
theorem dL_found_123 : decode cL_found 123 = .ok (.iconst 0, 1) := by decide +kernel
theorem dL_found_124 : decode cL_found 124 = .ok (.istore_n 1, 1) := by decide +kernel
theorem dL_found_125 : decode cL_found 125 = .ok (.iload_n 1, 1) := by decide +kernel
theorem dL_found_126 : decode cL_found 126 = .ok (.ireturn, 1) := by decide +kernel
theorem dL_law_0 : decode cL_law 0 = .ok (.new 12, 3) := by decide +kernel
theorem dL_law_3 : decode cL_law 3 = .ok (.dup, 1) := by decide +kernel
theorem dL_law_4 : decode cL_law 4 = .ok (.invokespecial 167, 3) := by decide +kernel
theorem dL_law_7 : decode cL_law 7 = .ok (.astore_n 1, 1) := by decide +kernel
theorem dL_law_8 : decode cL_law 8 = .ok (.aload_n 1, 1) := by decide +kernel
theorem dL_law_9 : decode cL_law 9 = .ok (.aload_n 0, 1) := by decide +kernel
theorem dL_law_10 : decode cL_law 10 = .ok (.iconst 0, 1) := by decide +kernel
theorem dL_law_11 : decode cL_law 11 = .ok (.invokestatic 168, 3) := by decide +kernel
theorem dL_law_14 : decode cL_law 14 = .ok (.ldc 172, 2) := by decide +kernel
theorem dL_law_16 : decode cL_law 16 = .ok (.invokestatic 173, 3) := by decide +kernel
theorem dL_law_19 : decode cL_law 19 = .ok (.iconst 4, 1) := by decide +kernel
theorem dL_law_20 : decode cL_law 20 = .ok (.aload_n 0, 1) := by decide +kernel
theorem dL_law_21 : decode cL_law 21 = .ok (.iconst 1, 1) := by decide +kernel
theorem dL_law_22 : decode cL_law 22 = .ok (.invokestatic 168, 3) := by decide +kernel
theorem dL_law_25 : decode cL_law 25 = .ok (.bipush 6, 2) := by decide +kernel
theorem dL_law_27 : decode cL_law 27 = .ok (.invokestatic 173, 3) := by decide +kernel
theorem dL_law_30 : decode cL_law 30 = .ok (.iadd, 1) := by decide +kernel
theorem dL_law_31 : decode cL_law 31 = .ok (.invokevirtual 176, 3) := by decide +kernel
theorem dL_law_34 : decode cL_law 34 = .ok (.ifCond .le 7, 3) := by decide +kernel
theorem dL_law_37 : decode cL_law 37 = .ok (.iconst 1, 1) := by decide +kernel
theorem dL_law_38 : decode cL_law 38 = .ok (.goto 4, 3) := by decide +kernel
theorem dL_law_41 : decode cL_law 41 = .ok (.iconst 0, 1) := by decide +kernel
theorem dL_law_42 : decode cL_law 42 = .ok (.istore_n 2, 1) := by decide +kernel
theorem dL_law_43 : decode cL_law 43 = .ok (.iconst 0, 1) := by decide +kernel
theorem dL_law_44 : decode cL_law 44 = .ok (.istore_n 3, 1) := by decide +kernel
theorem dL_law_45 : decode cL_law 45 = .ok (.iload_n 3, 1) := by decide +kernel
theorem dL_law_46 : decode cL_law 46 = .ok (.bipush 12, 2) := by decide +kernel
theorem dL_law_48 : decode cL_law 48 = .ok (.if_icmp .ge 104, 3) := by decide +kernel
theorem dL_law_51 : decode cL_law 51 = .ok (.iload_n 2, 1) := by decide +kernel
theorem dL_law_52 : decode cL_law 52 = .ok (.ifCond .eq 100, 3) := by decide +kernel
theorem dL_law_55 : decode cL_law 55 = .ok (.aload_n 1, 1) := by decide +kernel
theorem dL_law_56 : decode cL_law 56 = .ok (.aload_n 0, 1) := by decide +kernel
theorem dL_law_57 : decode cL_law 57 = .ok (.iconst 2, 1) := by decide +kernel
theorem dL_law_58 : decode cL_law 58 = .ok (.iload_n 3, 1) := by decide +kernel
theorem dL_law_59 : decode cL_law 59 = .ok (.iadd, 1) := by decide +kernel
theorem dL_law_60 : decode cL_law 60 = .ok (.invokestatic 168, 3) := by decide +kernel
theorem dL_law_63 : decode cL_law 63 = .ok (.bipush 19, 2) := by decide +kernel
theorem dL_law_65 : decode cL_law 65 = .ok (.invokestatic 173, 3) := by decide +kernel
theorem dL_law_68 : decode cL_law 68 = .ok (.invokestatic 179, 3) := by decide +kernel
theorem dL_law_71 : decode cL_law 71 = .ok (.ifCond .eq 36, 3) := by decide +kernel
theorem dL_law_74 : decode cL_law 74 = .ok (.aload_n 1, 1) := by decide +kernel
theorem dL_law_75 : decode cL_law 75 = .ok (.invokevirtual 71, 3) := by decide +kernel
theorem dL_law_78 : decode cL_law 78 = .ok (.iconst 2, 1) := by decide +kernel
theorem dL_law_79 : decode cL_law 79 = .ok (.if_icmp .gt 24, 3) := by decide +kernel
theorem dL_law_82 : decode cL_law 82 = .ok (.aload_n 1, 1) := by decide +kernel
theorem dL_law_83 : decode cL_law 83 = .ok (.aload_n 0, 1) := by decide +kernel
theorem dL_law_84 : decode cL_law 84 = .ok (.bipush 20, 2) := by decide +kernel
theorem dL_law_86 : decode cL_law 86 = .ok (.iload_n 3, 1) := by decide +kernel
theorem dL_law_87 : decode cL_law 87 = .ok (.iadd, 1) := by decide +kernel
theorem dL_law_88 : decode cL_law 88 = .ok (.invokestatic 168, 3) := by decide +kernel
theorem dL_law_91 : decode cL_law 91 = .ok (.ldc 172, 2) := by decide +kernel
theorem dL_law_93 : decode cL_law 93 = .ok (.invokestatic 173, 3) := by decide +kernel
theorem dL_law_96 : decode cL_law 96 = .ok (.iconst 3, 1) := by decide +kernel
theorem dL_law_97 : decode cL_law 97 = .ok (.invokevirtual 176, 3) := by decide +kernel
theorem dL_law_100 : decode cL_law 100 = .ok (.ifCond .le 7, 3) := by decide +kernel
theorem dL_law_103 : decode cL_law 103 = .ok (.iconst 1, 1) := by decide +kernel
theorem dL_law_104 : decode cL_law 104 = .ok (.goto 4, 3) := by decide +kernel
theorem dL_law_107 : decode cL_law 107 = .ok (.iconst 0, 1) := by decide +kernel
theorem dL_law_108 : decode cL_law 108 = .ok (.istore_n 2, 1) := by decide +kernel
theorem dL_law_109 : decode cL_law 109 = .ok (.iload_n 2, 1) := by decide +kernel
theorem dL_law_110 : decode cL_law 110 = .ok (.ifCond .eq 34, 3) := by decide +kernel
theorem dL_law_113 : decode cL_law 113 = .ok (.iload_n 3, 1) := by decide +kernel
theorem dL_law_114 : decode cL_law 114 = .ok (.iconst 3, 1) := by decide +kernel
theorem dL_law_115 : decode cL_law 115 = .ok (.irem, 1) := by decide +kernel
theorem dL_law_116 : decode cL_law 116 = .ok (.ifCond .gt 24, 3) := by decide +kernel
theorem dL_law_119 : decode cL_law 119 = .ok (.aload_n 1, 1) := by decide +kernel
theorem dL_law_120 : decode cL_law 120 = .ok (.invokestatic 182, 3) := by decide +kernel
theorem dL_law_123 : decode cL_law 123 = .ok (.ifCond .eq 21, 3) := by decide +kernel
theorem dL_law_126 : decode cL_law 126 = .ok (.aload_n 1, 1) := by decide +kernel
theorem dL_law_127 : decode cL_law 127 = .ok (.invokestatic 186, 3) := by decide +kernel
theorem dL_law_130 : decode cL_law 130 = .ok (.ifCond .eq 14, 3) := by decide +kernel
theorem dL_law_133 : decode cL_law 133 = .ok (.aload_n 1, 1) := by decide +kernel
theorem dL_law_134 : decode cL_law 134 = .ok (.invokestatic 189, 3) := by decide +kernel
theorem dL_law_137 : decode cL_law 137 = .ok (.ifCond .eq 7, 3) := by decide +kernel
theorem dL_law_140 : decode cL_law 140 = .ok (.iconst 1, 1) := by decide +kernel
theorem dL_law_141 : decode cL_law 141 = .ok (.goto 4, 3) := by decide +kernel
theorem dL_law_144 : decode cL_law 144 = .ok (.iconst 0, 1) := by decide +kernel
theorem dL_law_145 : decode cL_law 145 = .ok (.istore_n 2, 1) := by decide +kernel
theorem dL_law_146 : decode cL_law 146 = .ok (.iinc 3 1, 3) := by decide +kernel
theorem dL_law_149 : decode cL_law 149 = .ok (.goto (-104), 3) := by decide +kernel
theorem dL_law_152 : decode cL_law 152 = .ok (.iload_n 2, 1) := by decide +kernel
theorem dL_law_153 : decode cL_law 153 = .ok (.ifCond .eq 14, 3) := by decide +kernel
theorem dL_law_156 : decode cL_law 156 = .ok (.aload_n 1, 1) := by decide +kernel
theorem dL_law_157 : decode cL_law 157 = .ok (.invokevirtual 118, 3) := by decide +kernel
theorem dL_law_160 : decode cL_law 160 = .ok (.ifCond .eq 7, 3) := by decide +kernel
theorem dL_law_163 : decode cL_law 163 = .ok (.iconst 1, 1) := by decide +kernel
theorem dL_law_164 : decode cL_law 164 = .ok (.goto 4, 3) := by decide +kernel
theorem dL_law_167 : decode cL_law 167 = .ok (.iconst 0, 1) := by decide +kernel
theorem dL_law_168 : decode cL_law 168 = .ok (.ireturn, 1) := by decide +kernel
