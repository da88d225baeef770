theorem dX10_locate_52 : decode cX10_locate 52 = .ok (.bipush 39, 2) := by decide +kernel
theorem dX10_locate_54 : decode cX10_locate 54 = .ok (.if_icmp .ne 23, 3) := by decide +kernel
theorem dX10_locate_57 : decode cX10_locate 57 = .ok (.aload_n 0, 1) := by decide +kernel
theorem dX10_locate_58 : decode cX10_locate 58 = .ok (.getfield 15, 3) := by decide +kernel
theorem dX10_locate_61 : decode cX10_locate 61 = .ok (.aload_n 1, 1) := by decide +kernel
theorem dX10_locate_62 : decode cX10_locate 62 = .ok (.getfield 168, 3) := by decide +kernel
theorem dX10_locate_65 : decode cX10_locate 65 = .ok (.invokevirtual 171, 3) := by decide +kernel
theorem dX10_locate_68 : decode cX10_locate 68 = .ok (.istore_n 2, 1) := by decide +kernel
theorem dX10_locate_69 : decode cX10_locate 69 = .ok (.iload_n 2, 1) := by decide +kernel
theorem dX10_locate_70 : decode cX10_locate 70 = .ok (.iconst (-1), 1) := by decide +kernel
theorem dX10_locate_71 : decode cX10_locate 71 = .ok (.if_icmp .ne 62, 3) := by decide +kernel
theorem dX10_locate_74 : decode cX10_locate 74 = .ok (.bipush (-3), 2) := by decide +kernel
theorem dX10_locate_76 : decode cX10_locate 76 = .ok (.ireturn, 1) := by decide +kernel
theorem dX10_locate_77 : decode cX10_locate 77 = .ok (.aload_n 1, 1) := by decide +kernel
theorem dX10_locate_78 : decode cX10_locate 78 = .ok (.getfield 163, 3) := by decide +kernel
theorem dX10_locate_81 : decode cX10_locate 81 = .ok (.bipush 47, 2) := by decide +kernel
theorem dX10_locate_83 : decode cX10_locate 83 = .ok (.if_icmp .eq 12, 3) := by decide +kernel
theorem dX10_locate_86 : decode cX10_locate 86 = .ok (.aload_n 1, 1) := by decide +kernel
theorem dX10_locate_87 : decode cX10_locate 87 = .ok (.getfield 163, 3) := by decide +kernel
theorem dX10_locate_90 : decode cX10_locate 90 = .ok (.bipush 63, 2) := by decide +kernel
theorem dX10_locate_92 : decode cX10_locate 92 = .ok (.if_icmp .ne 41, 3) := by decide +kernel
theorem dX10_locate_95 : decode cX10_locate 95 = .ok (.aload_n 0, 1) := by decide +kernel
theorem dX10_locate_96 : decode cX10_locate 96 = .ok (.getfield 26, 3) := by decide +kernel
theorem dX10_locate_99 : decode cX10_locate 99 = .ok (.aload_n 0, 1) := by decide +kernel
theorem dX10_locate_100 : decode cX10_locate 100 = .ok (.getfield 15, 3) := by decide +kernel
theorem dX10_locate_103 : decode cX10_locate 103 = .ok (.aload_n 1, 1) := by decide +kernel
theorem dX10_locate_104 : decode cX10_locate 104 = .ok (.getfield 168, 3) := by decide +kernel
theorem dX10_locate_107 : decode cX10_locate 107 = .ok (.aload_n 1, 1) := by decide +kernel
theorem dX10_locate_108 : decode cX10_locate 108 = .ok (.getfield 163, 3) := by decide +kernel
theorem dX10_locate_111 : decode cX10_locate 111 = .ok (.bipush 63, 2) := by decide +kernel
theorem dX10_locate_113 : decode cX10_locate 113 = .ok (.if_icmp .ne 7, 3) := by decide +kernel
theorem dX10_locate_116 : decode cX10_locate 116 = .ok (.iconst 1, 1) := by decide +kernel
theorem dX10_locate_117 : decode cX10_locate 117 = .ok (.goto 4, 3) := by decide +kernel
theorem dX10_locate_120 : decode cX10_locate 120 = .ok (.iconst 0, 1) := by decide +kernel
theorem dX10_locate_121 : decode cX10_locate 121 = .ok (.invokevirtual 175, 3) := by decide +kernel
theorem dX10_locate_124 : decode cX10_locate 124 = .ok (.istore_n 2, 1) := by decide +kernel
theorem dX10_locate_125 : decode cX10_locate 125 = .ok (.iload_n 2, 1) := by decide +kernel
theorem dX10_locate_126 : decode cX10_locate 126 = .ok (.iconst (-1), 1) := by decide +kernel
theorem dX10_locate_127 : decode cX10_locate 127 = .ok (.if_icmp .ne 6, 3) := by decide +kernel
theorem dX10_locate_130 : decode cX10_locate 130 = .ok (.bipush (-2), 2) := by decide +kernel
theorem dX10_locate_132 : decode cX10_locate 132 = .ok (.ireturn, 1) := by decide +kernel
theorem dX10_locate_133 : decode cX10_locate 133 = .ok (.iload_n 2, 1) := by decide +kernel
theorem dX10_locate_134 : decode cX10_locate 134 = .ok (.aload_n 1, 1) := by decide +kernel
theorem dX10_locate_135 : decode cX10_locate 135 = .ok (.getfield 181, 3) := by decide +kernel
theorem dX10_locate_138 : decode cX10_locate 138 = .ok (.iadd, 1) := by decide +kernel
theorem dX10_locate_139 : decode cX10_locate 139 = .ok (.istore_n 2, 1) := by decide +kernel
theorem dX10_locate_140 : decode cX10_locate 140 = .ok (.iload_n 2, 1) := by decide +kernel
theorem dX10_locate_141 : decode cX10_locate 141 = .ok (.ifCond .lt 17, 3) := by decide +kernel
theorem dX10_locate_144 : decode cX10_locate 144 = .ok (.iload_n 2, 1) := by decide +kernel
theorem dX10_locate_145 : decode cX10_locate 145 = .ok (.aload_n 0, 1) := by decide +kernel
theorem dX10_locate_146 : decode cX10_locate 146 = .ok (.getfield 15, 3) := by decide +kernel
theorem dX10_locate_149 : decode cX10_locate 149 = .ok (.getfield 123, 3) := by decide +kernel
theorem dX10_locate_152 : decode cX10_locate 152 = .ok (.getfield 126, 3) := by decide +kernel
theorem dX10_locate_155 : decode cX10_locate 155 = .ok (.if_icmp .le 7, 3) := by decide +kernel
theorem dX10_locate_158 : decode cX10_locate 158 = .ok (.iconst (-1), 1) := by decide +kernel
theorem dX10_locate_159 : decode cX10_locate 159 = .ok (.goto 4, 3) := by decide +kernel
theorem dX10_locate_162 : decode cX10_locate 162 = .ok (.iload_n 2, 1) := by decide +kernel
theorem dX10_locate_163 : decode cX10_locate 163 = .ok (.ireturn, 1) := by decide +kernel
theorem dX10_steer_0 : decode cX10_steer 0 = .ok (.aload_n 1, 1) := by decide +kernel
theorem dX10_steer_1 : decode cX10_steer 1 = .ok (.getfield 129, 3) := by decide +kernel
theorem dX10_steer_4 : decode cX10_steer 4 = .ok (.ifCond .eq 33, 3) := by decide +kernel
theorem dX10_steer_7 : decode cX10_steer 7 = .ok (.aload_n 0, 1) := by decide +kernel
theorem dX10_steer_8 : decode cX10_steer 8 = .ok (.getfield 15, 3) := by decide +kernel
theorem dX10_steer_11 : decode cX10_steer 11 = .ok (.getfield 135, 3) := by decide +kernel
theorem dX10_steer_14 : decode cX10_steer 14 = .ok (.aload_n 0, 1) := by decide +kernel
theorem dX10_steer_15 : decode cX10_steer 15 = .ok (.getfield 138, 3) := by decide +kernel
theorem dX10_steer_18 : decode cX10_steer 18 = .ok (.if_icmp .lt 17, 3) := by decide +kernel
theorem dX10_steer_21 : decode cX10_steer 21 = .ok (.aload_n 0, 1) := by decide +kernel
theorem dX10_steer_22 : decode cX10_steer 22 = .ok (.getfield 15, 3) := by decide +kernel
theorem dX10_steer_25 : decode cX10_steer 25 = .ok (.getfield 135, 3) := by decide +kernel
theorem dX10_steer_28 : decode cX10_steer 28 = .ok (.aload_n 0, 1) := by decide +kernel
theorem dX10_steer_29 : decode cX10_steer 29 = .ok (.getfield 141, 3) := by decide +kernel
theorem dX10_steer_32 : decode cX10_steer 32 = .ok (.if_icmp .le 5, 3) := by decide +kernel
theorem dX10_steer_35 : decode cX10_steer 35 = .ok (.iconst 0, 1) := by decide +kernel
theorem dX10_steer_36 : decode cX10_steer 36 = .ok (.ireturn, 1) := by decide +kernel
theorem dX10_steer_37 : decode cX10_steer 37 = .ok (.aload_n 1, 1) := by decide +kernel
theorem dX10_steer_38 : decode cX10_steer 38 = .ok (.getfield 184, 3) := by decide +kernel
theorem dX10_steer_41 : decode cX10_steer 41 = .ok (.bipush 78, 2) := by decide +kernel
theorem dX10_steer_43 : decode cX10_steer 43 = .ok (.if_icmp .ne 40, 3) := by decide +kernel
theorem dX10_steer_46 : decode cX10_steer 46 = .ok (.aload_n 0, 1) := by decide +kernel
theorem dX10_steer_47 : decode cX10_steer 47 = .ok (.getfield 15, 3) := by decide +kernel
theorem dX10_steer_50 : decode cX10_steer 50 = .ok (.getfield 135, 3) := by decide +kernel
theorem dX10_steer_53 : decode cX10_steer 53 = .ok (.aload_n 0, 1) := by decide +kernel
theorem dX10_steer_54 : decode cX10_steer 54 = .ok (.getfield 15, 3) := by decide +kernel
theorem dX10_steer_57 : decode cX10_steer 57 = .ok (.getfield 123, 3) := by decide +kernel
theorem dX10_steer_60 : decode cX10_steer 60 = .ok (.getfield 126, 3) := by decide +kernel
theorem dX10_steer_63 : decode cX10_steer 63 = .ok (.if_icmp .lt 5, 3) := by decide +kernel
theorem dX10_steer_66 : decode cX10_steer 66 = .ok (.iconst 1, 1) := by decide +kernel
theorem dX10_steer_67 : decode cX10_steer 67 = .ok (.ireturn, 1) := by decide +kernel
theorem dX10_steer_68 : decode cX10_steer 68 = .ok (.aload_n 0, 1) := by decide +kernel
theorem dX10_steer_69 : decode cX10_steer 69 = .ok (.getfield 15, 3) := by decide +kernel
theorem dX10_steer_72 : decode cX10_steer 72 = .ok (.dup, 1) := by decide +kernel
theorem dX10_steer_73 : decode cX10_steer 73 = .ok (.getfield 135, 3) := by decide +kernel
theorem dX10_steer_76 : decode cX10_steer 76 = .ok (.iconst 1, 1) := by decide +kernel
theorem dX10_steer_77 : decode cX10_steer 77 = .ok (.iadd, 1) := by decide +kernel
theorem dX10_steer_78 : decode cX10_steer 78 = .ok (.putfield 135, 3) := by decide +kernel
theorem dX10_steer_81 : decode cX10_steer 81 = .ok (.iconst 0, 1) := by decide +kernel
theorem dX10_steer_82 : decode cX10_steer 82 = .ok (.ireturn, 1) := by decide +kernel
theorem dX10_steer_83 : decode cX10_steer 83 = .ok (.aload_n 1, 1) := by decide +kernel
theorem dX10_steer_84 : decode cX10_steer 84 = .ok (.getfield 184, 3) := by decide +kernel
theorem dX10_steer_87 : decode cX10_steer 87 = .ok (.bipush 58, 2) := by decide +kernel
theorem dX10_steer_89 : decode cX10_steer 89 = .ok (.if_icmp .eq 22, 3) := by decide +kernel
theorem dX10_steer_92 : decode cX10_steer 92 = .ok (.aload_n 1, 1) := by decide +kernel
theorem dX10_steer_93 : decode cX10_steer 93 = .ok (.getfield 184, 3) := by decide +kernel
theorem dX10_steer_96 : decode cX10_steer 96 = .ok (.bipush 84, 2) := by decide +kernel
theorem dX10_steer_98 : decode cX10_steer 98 = .ok (.if_icmp .ne 15, 3) := by decide +kernel
theorem dX10_steer_101 : decode cX10_steer 101 = .ok (.aload_n 0, 1) := by decide +kernel
theorem dX10_steer_102 : decode cX10_steer 102 = .ok (.getfield 30, 3) := by decide +kernel
theorem dX10_steer_105 : decode cX10_steer 105 = .ok (.getfield 67, 3) := by decide +kernel
theorem dX10_steer_108 : decode cX10_steer 108 = .ok (.ifCond .ne 5, 3) := by decide +kernel
theorem dX10_steer_111 : decode cX10_steer 111 = .ok (.iconst 0, 1) := by decide +kernel
theorem dX10_steer_112 : decode cX10_steer 112 = .ok (.ireturn, 1) := by decide +kernel
theorem dX10_steer_113 : decode cX10_steer 113 = .ok (.aload_n 0, 1) := by decide +kernel
theorem dX10_steer_114 : decode cX10_steer 114 = .ok (.aload_n 0, 1) := by decide +kernel
theorem dX10_steer_115 : decode cX10_steer 115 = .ok (.getfield 9, 3) := by decide +kernel
theorem dX10_steer_118 : decode cX10_steer 118 = .ok (.getfield 187, 3) := by decide +kernel
theorem dX10_steer_121 : decode cX10_steer 121 = .ok (.putfield 90, 3) := by decide +kernel
theorem dX10_steer_124 : decode cX10_steer 124 = .ok (.aload_n 1, 1) := by decide +kernel
theorem dX10_steer_125 : decode cX10_steer 125 = .ok (.getfield 184, 3) := by decide +kernel
theorem dX10_steer_128 : decode cX10_steer 128 = .ok (.bipush 113, 2) := by decide +kernel
theorem dX10_steer_130 : decode cX10_steer 130 = .ok (.if_icmp .eq 11, 3) := by decide +kernel
theorem dX10_steer_133 : decode cX10_steer 133 = .ok (.aload_n 1, 1) := by decide +kernel
theorem dX10_steer_134 : decode cX10_steer 134 = .ok (.getfield 188, 3) := by decide +kernel
theorem dX10_steer_137 : decode cX10_steer 137 = .ok (.iconst (-1), 1) := by decide +kernel
theorem dX10_steer_138 : decode cX10_steer 138 = .ok (.if_icmp .ne 5, 3) := by decide +kernel
theorem dX10_steer_141 : decode cX10_steer 141 = .ok (.iconst 0, 1) := by decide +kernel
theorem dX10_steer_142 : decode cX10_steer 142 = .ok (.ireturn, 1) := by decide +kernel
theorem dX10_steer_143 : decode cX10_steer 143 = .ok (.aload_n 0, 1) := by decide +kernel
theorem dX10_steer_144 : decode cX10_steer 144 = .ok (.aload_n 0, 1) := by decide +kernel
theorem dX10_steer_145 : decode cX10_steer 145 = .ok (.getfield 9, 3) := by decide +kernel
theorem dX10_steer_148 : decode cX10_steer 148 = .ok (.aload_n 1, 1) := by decide +kernel
theorem dX10_steer_149 : decode cX10_steer 149 = .ok (.getfield 188, 3) := by decide +kernel
theorem dX10_steer_152 : decode cX10_steer 152 = .ok (.invokevirtual 191, 3) := by decide +kernel
theorem dX10_steer_155 : decode cX10_steer 155 = .ok (.putfield 90, 3) := by decide +kernel
theorem dX10_steer_158 : decode cX10_steer 158 = .ok (.aload_n 1, 1) := by decide +kernel
theorem dX10_steer_159 : decode cX10_steer 159 = .ok (.getfield 184, 3) := by decide +kernel
theorem dX10_steer_162 : decode cX10_steer 162 = .ok (.bipush 84, 2) := by decide +kernel
theorem dX10_steer_164 : decode cX10_steer 164 = .ok (.if_icmp .ne 11, 3) := by decide +kernel
theorem dX10_steer_167 : decode cX10_steer 167 = .ok (.aload_n 0, 1) := by decide +kernel
theorem dX10_steer_168 : decode cX10_steer 168 = .ok (.getfield 30, 3) := by decide +kernel
theorem dX10_steer_171 : decode cX10_steer 171 = .ok (.iconst 0, 1) := by decide +kernel
theorem dX10_steer_172 : decode cX10_steer 172 = .ok (.putfield 67, 3) := by decide +kernel
theorem dX10_steer_175 : decode cX10_steer 175 = .ok (.aload_n 0, 1) := by decide +kernel
theorem dX10_steer_176 : decode cX10_steer 176 = .ok (.getfield 90, 3) := by decide +kernel
theorem dX10_steer_179 : decode cX10_steer 179 = .ok (.iconst (-1), 1) := by decide +kernel
theorem dX10_steer_180 : decode cX10_steer 180 = .ok (.if_icmp .ne 8, 3) := by decide +kernel
theorem dX10_steer_183 : decode cX10_steer 183 = .ok (.bipush 6, 2) := by decide +kernel
theorem dX10_steer_185 : decode cX10_steer 185 = .ok (.goto 4, 3) := by decide +kernel
theorem dX10_steer_188 : decode cX10_steer 188 = .ok (.iconst 0, 1) := by decide +kernel
theorem dX10_steer_189 : decode cX10_steer 189 = .ok (.ireturn, 1) := by decide +kernel
theorem dX10_doGroup_0 : decode cX10_doGroup 0 = .ok (.aload_n 0, 1) := by decide +kernel
theorem dX10_doGroup_1 : decode cX10_doGroup 1 = .ok (.aload_n 1, 1) := by decide +kernel
theorem dX10_doGroup_2 : decode cX10_doGroup 2 = .ok (.invokevirtual 194, 3) := by decide +kernel
theorem dX10_doGroup_5 : decode cX10_doGroup 5 = .ok (.aload_n 0, 1) := by decide +kernel
theorem dX10_doGroup_6 : decode cX10_doGroup 6 = .ok (.getfield 23, 3) := by decide +kernel
theorem dX10_doGroup_9 : decode cX10_doGroup 9 = .ok (.aload_n 0, 1) := by decide +kernel
theorem dX10_doGroup_10 : decode cX10_doGroup 10 = .ok (.getfield 19, 3) := by decide +kernel
theorem dX10_doGroup_13 : decode cX10_doGroup 13 = .ok (.invokevirtual 198, 3) := by decide +kernel
theorem dX10_doGroup_16 : decode cX10_doGroup 16 = .ok (.iconst 0, 1) := by decide +kernel
theorem dX10_doGroup_17 : decode cX10_doGroup 17 = .ok (.istore_n 3, 1) := by decide +kernel
theorem dX10_doGroup_18 : decode cX10_doGroup 18 = .ok (.iload_n 3, 1) := by decide +kernel
theorem dX10_doGroup_19 : decode cX10_doGroup 19 = .ok (.aload_n 0, 1) := by decide +kernel
theorem dX10_doGroup_20 : decode cX10_doGroup 20 = .ok (.getfield 204, 3) := by decide +kernel
theorem dX10_doGroup_23 : decode cX10_doGroup 23 = .ok (.if_icmp .ge 154, 3) := by decide +kernel
theorem dX10_doGroup_26 : decode cX10_doGroup 26 = .ok (.iload_n 3, 1) := by decide +kernel
theorem dX10_doGroup_27 : decode cX10_doGroup 27 = .ok (.aload_n 0, 1) := by decide +kernel
theorem dX10_doGroup_28 : decode cX10_doGroup 28 = .ok (.getfield 57, 3) := by decide +kernel
theorem dX10_doGroup_31 : decode cX10_doGroup 31 = .ok (.arraylength, 1) := by decide +kernel
theorem dX10_doGroup_32 : decode cX10_doGroup 32 = .ok (.if_icmp .ge 145, 3) := by decide +kernel
theorem dX10_doGroup_35 : decode cX10_doGroup 35 = .ok (.aload_n 0, 1) := by decide +kernel
theorem dX10_doGroup_36 : decode cX10_doGroup 36 = .ok (.getfield 15, 3) := by decide +kernel
theorem dX10_doGroup_39 : decode cX10_doGroup 39 = .ok (.aload_n 0, 1) := by decide +kernel
theorem dX10_doGroup_40 : decode cX10_doGroup 40 = .ok (.getfield 57, 3) := by decide +kernel
theorem dX10_doGroup_43 : decode cX10_doGroup 43 = .ok (.iload_n 3, 1) := by decide +kernel
theorem dX10_doGroup_44 : decode cX10_doGroup 44 = .ok (.iaload, 1) := by decide +kernel
theorem dX10_doGroup_45 : decode cX10_doGroup 45 = .ok (.invokevirtual 207, 3) := by decide +kernel
theorem dX10_doGroup_48 : decode cX10_doGroup 48 = .ok (.istore 4, 2) := by decide +kernel
theorem dX10_doGroup_50 : decode cX10_doGroup 50 = .ok (.iload 4, 2) := by decide +kernel
theorem dX10_doGroup_52 : decode cX10_doGroup 52 = .ok (.iconst (-1), 1) := by decide +kernel
theorem dX10_doGroup_53 : decode cX10_doGroup 53 = .ok (.if_icmp .ne 6, 3) := by decide +kernel
theorem dX10_doGroup_56 : decode cX10_doGroup 56 = .ok (.goto 115, 3) := by decide +kernel
theorem dX10_doGroup_59 : decode cX10_doGroup 59 = .ok (.aload_n 0, 1) := by decide +kernel
theorem dX10_doGroup_60 : decode cX10_doGroup 60 = .ok (.getfield 15, 3) := by decide +kernel
theorem dX10_doGroup_63 : decode cX10_doGroup 63 = .ok (.iload 4, 2) := by decide +kernel
theorem dX10_doGroup_65 : decode cX10_doGroup 65 = .ok (.putfield 135, 3) := by decide +kernel
theorem dX10_doGroup_68 : decode cX10_doGroup 68 = .ok (.iload_n 2, 1) := by decide +kernel
theorem dX10_doGroup_69 : decode cX10_doGroup 69 = .ok (.iconst 1, 1) := by decide +kernel
theorem dX10_doGroup_70 : decode cX10_doGroup 70 = .ok (.iadd, 1) := by decide +kernel
theorem dX10_doGroup_71 : decode cX10_doGroup 71 = .ok (.istore 5, 2) := by decide +kernel
theorem dX10_doGroup_73 : decode cX10_doGroup 73 = .ok (.iload 5, 2) := by decide +kernel
theorem dX10_doGroup_75 : decode cX10_doGroup 75 = .ok (.aload_n 1, 1) := by decide +kernel
theorem dX10_doGroup_76 : decode cX10_doGroup 76 = .ok (.getfield 85, 3) := by decide +kernel
theorem dX10_doGroup_79 : decode cX10_doGroup 79 = .ok (.if_icmp .ge 92, 3) := by decide +kernel
theorem dX10_doGroup_82 : decode cX10_doGroup 82 = .ok (.aload_n 0, 1) := by decide +kernel
theorem dX10_doGroup_83 : decode cX10_doGroup 83 = .ok (.getfield 9, 3) := by decide +kernel
theorem dX10_doGroup_86 : decode cX10_doGroup 86 = .ok (.iload 5, 2) := by decide +kernel
theorem dX10_doGroup_88 : decode cX10_doGroup 88 = .ok (.invokevirtual 73, 3) := by decide +kernel
theorem dX10_doGroup_91 : decode cX10_doGroup 91 = .ok (.astore 6, 2) := by decide +kernel
theorem dX10_doGroup_93 : decode cX10_doGroup 93 = .ok (.aload 6, 2) := by decide +kernel
theorem dX10_doGroup_95 : decode cX10_doGroup 95 = .ok (.ifnonnull 6, 3) := by decide +kernel
theorem dX10_doGroup_98 : decode cX10_doGroup 98 = .ok (.goto 73, 3) := by decide +kernel
theorem dX10_doGroup_101 : decode cX10_doGroup 101 = .ok (.aload_n 0, 1) := by decide +kernel
theorem dX10_doGroup_102 : decode cX10_doGroup 102 = .ok (.dup, 1) := by decide +kernel
theorem dX10_doGroup_103 : decode cX10_doGroup 103 = .ok (.getfield 60, 3) := by decide +kernel
theorem dX10_doGroup_106 : decode cX10_doGroup 106 = .ok (.iconst 1, 1) := by decide +kernel
theorem dX10_doGroup_107 : decode cX10_doGroup 107 = .ok (.iadd, 1) := by decide +kernel
theorem dX10_doGroup_108 : decode cX10_doGroup 108 = .ok (.putfield 60, 3) := by decide +kernel
theorem dX10_doGroup_111 : decode cX10_doGroup 111 = .ok (.aload_n 0, 1) := by decide +kernel
theorem dX10_doGroup_112 : decode cX10_doGroup 112 = .ok (.getfield 60, 3) := by decide +kernel
theorem dX10_doGroup_115 : decode cX10_doGroup 115 = .ok (.bipush 60, 2) := by decide +kernel
theorem dX10_doGroup_117 : decode cX10_doGroup 117 = .ok (.if_icmp .le 8, 3) := by decide +kernel
theorem dX10_doGroup_120 : decode cX10_doGroup 120 = .ok (.bipush 7, 2) := by decide +kernel
theorem dX10_doGroup_122 : decode cX10_doGroup 122 = .ok (.goto 9, 3) := by decide +kernel
theorem dX10_doGroup_125 : decode cX10_doGroup 125 = .ok (.aload_n 0, 1) := by decide +kernel
theorem dX10_doGroup_126 : decode cX10_doGroup 126 = .ok (.aload 6, 2) := by decide +kernel
theorem dX10_doGroup_128 : decode cX10_doGroup 128 = .ok (.invokevirtual 93, 3) := by decide +kernel
theorem dX10_doGroup_131 : decode cX10_doGroup 131 = .ok (.istore 7, 2) := by decide +kernel
theorem dX10_doGroup_133 : decode cX10_doGroup 133 = .ok (.iload 7, 2) := by decide +kernel
theorem dX10_doGroup_135 : decode cX10_doGroup 135 = .ok (.ifCond .ne 11, 3) := by decide +kernel
theorem dX10_doGroup_138 : decode cX10_doGroup 138 = .ok (.aload_n 0, 1) := by decide +kernel
theorem dX10_doGroup_139 : decode cX10_doGroup 139 = .ok (.aload 6, 2) := by decide +kernel
theorem dX10_doGroup_141 : decode cX10_doGroup 141 = .ok (.invokevirtual 111, 3) := by decide +kernel
theorem dX10_doGroup_144 : decode cX10_doGroup 144 = .ok (.istore 7, 2) := by decide +kernel
theorem dX10_doGroup_146 : decode cX10_doGroup 146 = .ok (.iload 7, 2) := by decide +kernel
theorem dX10_doGroup_148 : decode cX10_doGroup 148 = .ok (.ifCond .eq 17, 3) := by decide +kernel
theorem dX10_doGroup_151 : decode cX10_doGroup 151 = .ok (.aload_n 0, 1) := by decide +kernel
theorem dX10_doGroup_152 : decode cX10_doGroup 152 = .ok (.getfield 19, 3) := by decide +kernel
theorem dX10_doGroup_155 : decode cX10_doGroup 155 = .ok (.aload_n 0, 1) := by decide +kernel
theorem dX10_doGroup_156 : decode cX10_doGroup 156 = .ok (.getfield 23, 3) := by decide +kernel
theorem dX10_doGroup_159 : decode cX10_doGroup 159 = .ok (.invokevirtual 198, 3) := by decide +kernel
theorem dX10_doGroup_162 : decode cX10_doGroup 162 = .ok (.iload 7, 2) := by decide +kernel
theorem dX10_doGroup_164 : decode cX10_doGroup 164 = .ok (.ireturn, 1) := by decide +kernel
theorem dX10_doGroup_165 : decode cX10_doGroup 165 = .ok (.iinc 5 1, 3) := by decide +kernel
theorem dX10_doGroup_168 : decode cX10_doGroup 168 = .ok (.goto (-95), 3) := by decide +kernel
theorem dX10_doGroup_171 : decode cX10_doGroup 171 = .ok (.iinc 3 1, 3) := by decide +kernel
theorem dX10_doGroup_174 : decode cX10_doGroup 174 = .ok (.goto (-156), 3) := by decide +kernel
theorem dX10_doGroup_177 : decode cX10_doGroup 177 = .ok (.iconst 0, 1) := by decide +kernel
theorem dX10_doGroup_178 : decode cX10_doGroup 178 = .ok (.ireturn, 1) := by decide +kernel
theorem dX10_meet_0 : decode cX10_meet 0 = .ok (.aload_n 0, 1) := by decide +kernel
theorem dX10_meet_1 : decode cX10_meet 1 = .ok (.iconst 0, 1) := by decide +kernel
theorem dX10_meet_2 : decode cX10_meet 2 = .ok (.putfield 204, 3) := by decide +kernel
theorem dX10_meet_5 : decode cX10_meet 5 = .ok (.aload_n 0, 1) := by decide +kernel
theorem dX10_meet_6 : decode cX10_meet 6 = .ok (.getfield 138, 3) := by decide +kernel
theorem dX10_meet_9 : decode cX10_meet 9 = .ok (.istore_n 2, 1) := by decide +kernel
theorem dX10_meet_10 : decode cX10_meet 10 = .ok (.iload_n 2, 1) := by decide +kernel
theorem dX10_meet_11 : decode cX10_meet 11 = .ok (.aload_n 0, 1) := by decide +kernel
theorem dX10_meet_12 : decode cX10_meet 12 = .ok (.getfield 141, 3) := by decide +kernel
theorem dX10_meet_15 : decode cX10_meet 15 = .ok (.if_icmp .gt 103, 3) := by decide +kernel
theorem dX10_meet_18 : decode cX10_meet 18 = .ok (.aload_n 1, 1) := by decide +kernel
theorem dX10_meet_19 : decode cX10_meet 19 = .ok (.getfield 184, 3) := by decide +kernel
theorem dX10_meet_22 : decode cX10_meet 22 = .ok (.bipush 123, 2) := by decide +kernel
theorem dX10_meet_24 : decode cX10_meet 24 = .ok (.if_icmp .eq 39, 3) := by decide +kernel
theorem dX10_meet_27 : decode cX10_meet 27 = .ok (.aload_n 0, 1) := by decide +kernel
theorem dX10_meet_28 : decode cX10_meet 28 = .ok (.getfield 26, 3) := by decide +kernel
theorem dX10_meet_31 : decode cX10_meet 31 = .ok (.aload_n 0, 1) := by decide +kernel
theorem dX10_meet_32 : decode cX10_meet 32 = .ok (.getfield 15, 3) := by decide +kernel
theorem dX10_meet_35 : decode cX10_meet 35 = .ok (.getfield 123, 3) := by decide +kernel
theorem dX10_meet_38 : decode cX10_meet 38 = .ok (.iload_n 2, 1) := by decide +kernel
theorem dX10_meet_39 : decode cX10_meet 39 = .ok (.aload_n 1, 1) := by decide +kernel
theorem dX10_meet_40 : decode cX10_meet 40 = .ok (.getfield 210, 3) := by decide +kernel
theorem dX10_meet_43 : decode cX10_meet 43 = .ok (.invokevirtual 213, 3) := by decide +kernel
theorem dX10_meet_46 : decode cX10_meet 46 = .ok (.aload_n 1, 1) := by decide +kernel
theorem dX10_meet_47 : decode cX10_meet 47 = .ok (.getfield 184, 3) := by decide +kernel
theorem dX10_meet_50 : decode cX10_meet 50 = .ok (.bipush 103, 2) := by decide +kernel
theorem dX10_meet_52 : decode cX10_meet 52 = .ok (.if_icmp .ne 7, 3) := by decide +kernel
theorem dX10_meet_55 : decode cX10_meet 55 = .ok (.iconst 1, 1) := by decide +kernel
theorem dX10_meet_56 : decode cX10_meet 56 = .ok (.goto 4, 3) := by decide +kernel
theorem dX10_meet_59 : decode cX10_meet 59 = .ok (.iconst 0, 1) := by decide +kernel
theorem dX10_meet_60 : decode cX10_meet 60 = .ok (.if_icmp .ne 7, 3) := by decide +kernel
theorem dX10_meet_63 : decode cX10_meet 63 = .ok (.iconst 1, 1) := by decide +kernel
theorem dX10_meet_64 : decode cX10_meet 64 = .ok (.goto 4, 3) := by decide +kernel
theorem dX10_meet_67 : decode cX10_meet 67 = .ok (.iconst 0, 1) := by decide +kernel
theorem dX10_meet_68 : decode cX10_meet 68 = .ok (.istore_n 3, 1) := by decide +kernel
theorem dX10_meet_69 : decode cX10_meet 69 = .ok (.iload_n 3, 1) := by decide +kernel
theorem dX10_meet_70 : decode cX10_meet 70 = .ok (.ifCond .eq 42, 3) := by decide +kernel
theorem dX10_meet_73 : decode cX10_meet 73 = .ok (.aload_n 0, 1) := by decide +kernel
theorem dX10_meet_74 : decode cX10_meet 74 = .ok (.getfield 204, 3) := by decide +kernel
theorem dX10_meet_77 : decode cX10_meet 77 = .ok (.aload_n 0, 1) := by decide +kernel
theorem dX10_meet_78 : decode cX10_meet 78 = .ok (.getfield 57, 3) := by decide +kernel
theorem dX10_meet_81 : decode cX10_meet 81 = .ok (.arraylength, 1) := by decide +kernel
theorem dX10_meet_82 : decode cX10_meet 82 = .ok (.if_icmp .ge 30, 3) := by decide +kernel
theorem dX10_meet_85 : decode cX10_meet 85 = .ok (.aload_n 0, 1) := by decide +kernel
theorem dX10_meet_86 : decode cX10_meet 86 = .ok (.getfield 57, 3) := by decide +kernel
theorem dX10_meet_89 : decode cX10_meet 89 = .ok (.aload_n 0, 1) := by decide +kernel
theorem dX10_meet_90 : decode cX10_meet 90 = .ok (.getfield 204, 3) := by decide +kernel
theorem dX10_meet_93 : decode cX10_meet 93 = .ok (.aload_n 0, 1) := by decide +kernel
theorem dX10_meet_94 : decode cX10_meet 94 = .ok (.getfield 15, 3) := by decide +kernel
theorem dX10_meet_97 : decode cX10_meet 97 = .ok (.iload_n 2, 1) := by decide +kernel
theorem dX10_meet_98 : decode cX10_meet 98 = .ok (.invokevirtual 217, 3) := by decide +kernel
theorem dX10_meet_101 : decode cX10_meet 101 = .ok (.iastore, 1) := by decide +kernel
theorem dX10_meet_102 : decode cX10_meet 102 = .ok (.aload_n 0, 1) := by decide +kernel
theorem dX10_meet_103 : decode cX10_meet 103 = .ok (.dup, 1) := by decide +kernel
theorem dX10_meet_104 : decode cX10_meet 104 = .ok (.getfield 204, 3) := by decide +kernel
theorem dX10_meet_107 : decode cX10_meet 107 = .ok (.iconst 1, 1) := by decide +kernel
theorem dX10_meet_108 : decode cX10_meet 108 = .ok (.iadd, 1) := by decide +kernel
theorem dX10_meet_109 : decode cX10_meet 109 = .ok (.putfield 204, 3) := by decide +kernel
theorem dX10_meet_112 : decode cX10_meet 112 = .ok (.iinc 2 1, 3) := by decide +kernel
theorem dX10_meet_115 : decode cX10_meet 115 = .ok (.goto (-105), 3) := by decide +kernel
theorem dX10_meet_118 : decode cX10_meet 118 = .ok (.return_, 1) := by decide +kernel
theorem dX10_doOne_0 : decode cX10_doOne 0 = .ok (.aload_n 1, 1) := by decide +kernel
theorem dX10_doOne_1 : decode cX10_doOne 1 = .ok (.getfield 184, 3) := by decide +kernel
theorem dX10_doOne_4 : decode cX10_doOne 4 = .ok (.tableswitch 498 60 122 #[268, 498, 268, 498, 498, 498, 498, 498, 498, 498, 498, 498, 498, 498, 498, 498, 498, 498, 498, 475, 498, 498, 498, 498, 498, 498, 498, 498, 498, 498, 498, 498, 498, 498, 498, 498, 498, 305, 498, 305, 382, 377, 498, 498, 498, 305, 430, 498, 444, 449, 498, 475, 498, 498, 361, 268, 462, 330, 435, 498, 498, 498, 268], 268) := by decide +kernel
theorem dX10_doOne_272 : decode cX10_doOne 272 = .ok (.aload_n 0, 1) := by decide +kernel
theorem dX10_doOne_273 : decode cX10_doOne 273 = .ok (.getfield 30, 3) := by decide +kernel
theorem dX10_doOne_276 : decode cX10_doOne 276 = .ok (.aload_n 1, 1) := by decide +kernel
theorem dX10_doOne_277 : decode cX10_doOne 277 = .ok (.aload_n 0, 1) := by decide +kernel
theorem dX10_doOne_278 : decode cX10_doOne 278 = .ok (.getfield 15, 3) := by decide +kernel
theorem dX10_doOne_281 : decode cX10_doOne 281 = .ok (.getfield 123, 3) := by decide +kernel
theorem dX10_doOne_284 : decode cX10_doOne 284 = .ok (.aload_n 0, 1) := by decide +kernel
theorem dX10_doOne_285 : decode cX10_doOne 285 = .ok (.getfield 138, 3) := by decide +kernel
theorem dX10_doOne_288 : decode cX10_doOne 288 = .ok (.aload_n 0, 1) := by decide +kernel
theorem dX10_doOne_289 : decode cX10_doOne 289 = .ok (.getfield 141, 3) := by decide +kernel
theorem dX10_doOne_292 : decode cX10_doOne 292 = .ok (.invokevirtual 220, 3) := by decide +kernel
theorem dX10_doOne_295 : decode cX10_doOne 295 = .ok (.istore_n 2, 1) := by decide +kernel
theorem dX10_doOne_296 : decode cX10_doOne 296 = .ok (.aload_n 0, 1) := by decide +kernel
theorem dX10_doOne_297 : decode cX10_doOne 297 = .ok (.getfield 15, 3) := by decide +kernel
theorem dX10_doOne_300 : decode cX10_doOne 300 = .ok (.aload_n 0, 1) := by decide +kernel
theorem dX10_doOne_301 : decode cX10_doOne 301 = .ok (.getfield 141, 3) := by decide +kernel
theorem dX10_doOne_304 : decode cX10_doOne 304 = .ok (.putfield 135, 3) := by decide +kernel
theorem dX10_doOne_307 : decode cX10_doOne 307 = .ok (.iload_n 2, 1) := by decide +kernel
theorem dX10_doOne_308 : decode cX10_doOne 308 = .ok (.ireturn, 1) := by decide +kernel
theorem dX10_doOne_309 : decode cX10_doOne 309 = .ok (.aload_n 0, 1) := by decide +kernel
theorem dX10_doOne_310 : decode cX10_doOne 310 = .ok (.getfield 9, 3) := by decide +kernel
theorem dX10_doOne_313 : decode cX10_doOne 313 = .ok (.aload_n 1, 1) := by decide +kernel
theorem dX10_doOne_314 : decode cX10_doOne 314 = .ok (.aload_n 0, 1) := by decide +kernel
theorem dX10_doOne_315 : decode cX10_doOne 315 = .ok (.getfield 43, 3) := by decide +kernel
theorem dX10_doOne_318 : decode cX10_doOne 318 = .ok (.invokevirtual 224, 3) := by decide +kernel
theorem dX10_doOne_321 : decode cX10_doOne 321 = .ok (.aload_n 0, 1) := by decide +kernel
theorem dX10_doOne_322 : decode cX10_doOne 322 = .ok (.aload_n 1, 1) := by decide +kernel
theorem dX10_doOne_323 : decode cX10_doOne 323 = .ok (.getfield 184, 3) := by decide +kernel
theorem dX10_doOne_326 : decode cX10_doOne 326 = .ok (.aload_n 0, 1) := by decide +kernel
theorem dX10_doOne_327 : decode cX10_doOne 327 = .ok (.getfield 43, 3) := by decide +kernel
theorem dX10_doOne_330 : decode cX10_doOne 330 = .ok (.invokevirtual 228, 3) := by decide +kernel
theorem dX10_doOne_333 : decode cX10_doOne 333 = .ok (.ireturn, 1) := by decide +kernel
theorem dX10_doOne_334 : decode cX10_doOne 334 = .ok (.aload_n 0, 1) := by decide +kernel
theorem dX10_doOne_335 : decode cX10_doOne 335 = .ok (.getfield 19, 3) := by decide +kernel
theorem dX10_doOne_338 : decode cX10_doOne 338 = .ok (.getfield 232, 3) := by decide +kernel
theorem dX10_doOne_341 : decode cX10_doOne 341 = .ok (.getfield 126, 3) := by decide +kernel
theorem dX10_doOne_344 : decode cX10_doOne 344 = .ok (.ifCond .ne 7, 3) := by decide +kernel
theorem dX10_doOne_347 : decode cX10_doOne 347 = .ok (.iconst 5, 1) := by decide +kernel
theorem dX10_doOne_348 : decode cX10_doOne 348 = .ok (.goto 16, 3) := by decide +kernel
theorem dX10_doOne_351 : decode cX10_doOne 351 = .ok (.aload_n 0, 1) := by decide +kernel
theorem dX10_doOne_352 : decode cX10_doOne 352 = .ok (.bipush 117, 2) := by decide +kernel
theorem dX10_doOne_354 : decode cX10_doOne 354 = .ok (.aload_n 0, 1) := by decide +kernel
theorem dX10_doOne_355 : decode cX10_doOne 355 = .ok (.getfield 19, 3) := by decide +kernel
theorem dX10_doOne_358 : decode cX10_doOne 358 = .ok (.getfield 232, 3) := by decide +kernel
theorem dX10_doOne_361 : decode cX10_doOne 361 = .ok (.invokevirtual 228, 3) := by decide +kernel
theorem dX10_doOne_364 : decode cX10_doOne 364 = .ok (.ireturn, 1) := by decide +kernel
theorem dX10_doOne_365 : decode cX10_doOne 365 = .ok (.aload_n 0, 1) := by decide +kernel
theorem dX10_doOne_366 : decode cX10_doOne 366 = .ok (.aload_n 0, 1) := by decide +kernel
theorem dX10_doOne_367 : decode cX10_doOne 367 = .ok (.getfield 19, 3) := by decide +kernel
theorem dX10_doOne_370 : decode cX10_doOne 370 = .ok (.aload_n 1, 1) := by decide +kernel
theorem dX10_doOne_371 : decode cX10_doOne 371 = .ok (.getfield 188, 3) := by decide +kernel
theorem dX10_doOne_374 : decode cX10_doOne 374 = .ok (.invokevirtual 235, 3) := by decide +kernel
theorem dX10_doOne_377 : decode cX10_doOne 377 = .ok (.invokevirtual 239, 3) := by decide +kernel
theorem dX10_doOne_380 : decode cX10_doOne 380 = .ok (.ireturn, 1) := by decide +kernel
theorem dX10_doOne_381 : decode cX10_doOne 381 = .ok (.aload_n 0, 1) := by decide +kernel
theorem dX10_doOne_382 : decode cX10_doOne 382 = .ok (.invokevirtual 243, 3) := by decide +kernel
theorem dX10_doOne_385 : decode cX10_doOne 385 = .ok (.ireturn, 1) := by decide +kernel
theorem dX10_doOne_386 : decode cX10_doOne 386 = .ok (.aload_n 0, 1) := by decide +kernel
theorem dX10_doOne_387 : decode cX10_doOne 387 = .ok (.getfield 15, 3) := by decide +kernel
theorem dX10_doOne_390 : decode cX10_doOne 390 = .ok (.aload_n 0, 1) := by decide +kernel
theorem dX10_doOne_391 : decode cX10_doOne 391 = .ok (.getfield 138, 3) := by decide +kernel
theorem dX10_doOne_394 : decode cX10_doOne 394 = .ok (.aload_n 0, 1) := by decide +kernel
theorem dX10_doOne_395 : decode cX10_doOne 395 = .ok (.getfield 141, 3) := by decide +kernel
theorem dX10_doOne_398 : decode cX10_doOne 398 = .ok (.aload_n 0, 1) := by decide +kernel
theorem dX10_doOne_399 : decode cX10_doOne 399 = .ok (.getfield 138, 3) := by decide +kernel
theorem dX10_doOne_402 : decode cX10_doOne 402 = .ok (.isub, 1) := by decide +kernel
theorem dX10_doOne_403 : decode cX10_doOne 403 = .ok (.iconst 1, 1) := by decide +kernel
theorem dX10_doOne_404 : decode cX10_doOne 404 = .ok (.iadd, 1) := by decide +kernel
theorem dX10_doOne_405 : decode cX10_doOne 405 = .ok (.invokevirtual 247, 3) := by decide +kernel
theorem dX10_doOne_408 : decode cX10_doOne 408 = .ok (.aload_n 0, 1) := by decide +kernel
theorem dX10_doOne_409 : decode cX10_doOne 409 = .ok (.getfield 15, 3) := by decide +kernel
theorem dX10_doOne_412 : decode cX10_doOne 412 = .ok (.aload_n 0, 1) := by decide +kernel
theorem dX10_doOne_413 : decode cX10_doOne 413 = .ok (.getfield 138, 3) := by decide +kernel
theorem dX10_doOne_416 : decode cX10_doOne 416 = .ok (.aload_n 0, 1) := by decide +kernel
theorem dX10_doOne_417 : decode cX10_doOne 417 = .ok (.getfield 15, 3) := by decide +kernel
theorem dX10_doOne_420 : decode cX10_doOne 420 = .ok (.getfield 123, 3) := by decide +kernel
theorem dX10_doOne_423 : decode cX10_doOne 423 = .ok (.getfield 126, 3) := by decide +kernel
theorem dX10_doOne_426 : decode cX10_doOne 426 = .ok (.invokestatic 154, 3) := by decide +kernel
theorem dX10_doOne_429 : decode cX10_doOne 429 = .ok (.putfield 135, 3) := by decide +kernel
theorem dX10_doOne_432 : decode cX10_doOne 432 = .ok (.iconst 0, 1) := by decide +kernel
theorem dX10_doOne_433 : decode cX10_doOne 433 = .ok (.ireturn, 1) := by decide +kernel
theorem dX10_doOne_434 : decode cX10_doOne 434 = .ok (.aload_n 0, 1) := by decide +kernel
theorem dX10_doOne_435 : decode cX10_doOne 435 = .ok (.invokevirtual 251, 3) := by decide +kernel
theorem dX10_doOne_438 : decode cX10_doOne 438 = .ok (.ireturn, 1) := by decide +kernel
theorem dX10_doOne_439 : decode cX10_doOne 439 = .ok (.aload_n 0, 1) := by decide +kernel
theorem dX10_doOne_440 : decode cX10_doOne 440 = .ok (.aload_n 1, 1) := by decide +kernel
theorem dX10_doOne_441 : decode cX10_doOne 441 = .ok (.getfield 188, 3) := by decide +kernel
theorem dX10_doOne_444 : decode cX10_doOne 444 = .ok (.invokevirtual 254, 3) := by decide +kernel
theorem dX10_doOne_447 : decode cX10_doOne 447 = .ok (.ireturn, 1) := by decide +kernel
theorem dX10_doOne_448 : decode cX10_doOne 448 = .ok (.aload_n 0, 1) := by decide +kernel
theorem dX10_doOne_449 : decode cX10_doOne 449 = .ok (.invokevirtual 257, 3) := by decide +kernel
theorem dX10_doOne_452 : decode cX10_doOne 452 = .ok (.ireturn, 1) := by decide +kernel
theorem dX10_doOne_453 : decode cX10_doOne 453 = .ok (.aload_n 0, 1) := by decide +kernel
theorem dX10_doOne_454 : decode cX10_doOne 454 = .ok (.aload_n 0, 1) := by decide +kernel
theorem dX10_doOne_455 : decode cX10_doOne 455 = .ok (.aload_n 1, 1) := by decide +kernel
theorem dX10_doOne_456 : decode cX10_doOne 456 = .ok (.getfield 260, 3) := by decide +kernel
theorem dX10_doOne_459 : decode cX10_doOne 459 = .ok (.invokevirtual 147, 3) := by decide +kernel
theorem dX10_doOne_462 : decode cX10_doOne 462 = .ok (.invokevirtual 263, 3) := by decide +kernel
theorem dX10_doOne_465 : decode cX10_doOne 465 = .ok (.ireturn, 1) := by decide +kernel
theorem dX10_doOne_466 : decode cX10_doOne 466 = .ok (.aload_n 0, 1) := by decide +kernel
theorem dX10_doOne_467 : decode cX10_doOne 467 = .ok (.aload_n 0, 1) := by decide +kernel
theorem dX10_doOne_468 : decode cX10_doOne 468 = .ok (.aload_n 1, 1) := by decide +kernel
theorem dX10_doOne_469 : decode cX10_doOne 469 = .ok (.getfield 260, 3) := by decide +kernel
theorem dX10_doOne_472 : decode cX10_doOne 472 = .ok (.invokevirtual 147, 3) := by decide +kernel
theorem dX10_doOne_475 : decode cX10_doOne 475 = .ok (.invokevirtual 266, 3) := by decide +kernel
theorem dX10_doOne_478 : decode cX10_doOne 478 = .ok (.ireturn, 1) := by decide +kernel
theorem dX10_doOne_479 : decode cX10_doOne 479 = .ok (.aload_n 0, 1) := by decide +kernel
theorem dX10_doOne_480 : decode cX10_doOne 480 = .ok (.aload_n 1, 1) := by decide +kernel
theorem dX10_doOne_481 : decode cX10_doOne 481 = .ok (.getfield 188, 3) := by decide +kernel
theorem dX10_doOne_484 : decode cX10_doOne 484 = .ok (.aload_n 1, 1) := by decide +kernel
theorem dX10_doOne_485 : decode cX10_doOne 485 = .ok (.getfield 184, 3) := by decide +kernel
theorem dX10_doOne_488 : decode cX10_doOne 488 = .ok (.bipush 79, 2) := by decide +kernel
theorem dX10_doOne_490 : decode cX10_doOne 490 = .ok (.if_icmp .ne 7, 3) := by decide +kernel
theorem dX10_doOne_493 : decode cX10_doOne 493 = .ok (.iconst 1, 1) := by decide +kernel
theorem dX10_doOne_494 : decode cX10_doOne 494 = .ok (.goto 4, 3) := by decide +kernel
theorem dX10_doOne_497 : decode cX10_doOne 497 = .ok (.iconst 0, 1) := by decide +kernel
theorem dX10_doOne_498 : decode cX10_doOne 498 = .ok (.invokevirtual 269, 3) := by decide +kernel
theorem dX10_doOne_501 : decode cX10_doOne 501 = .ok (.ireturn, 1) := by decide +kernel
theorem dX10_doOne_502 : decode cX10_doOne 502 = .ok (.aload_n 0, 1) := by decide +kernel
theorem dX10_doOne_503 : decode cX10_doOne 503 = .ok (.aload_n 1, 1) := by decide +kernel
theorem dX10_doOne_504 : decode cX10_doOne 504 = .ok (.invokevirtual 273, 3) := by decide +kernel
theorem dX10_doOne_507 : decode cX10_doOne 507 = .ok (.ireturn, 1) := by decide +kernel
theorem dX10_bring_0 : decode cX10_bring 0 = .ok (.iload_n 1, 1) := by decide +kernel
theorem dX10_bring_1 : decode cX10_bring 1 = .ok (.bipush 99, 2) := by decide +kernel
theorem dX10_bring_3 : decode cX10_bring 3 = .ok (.if_icmp .eq 9, 3) := by decide +kernel
theorem dX10_bring_6 : decode cX10_bring 6 = .ok (.iload_n 1, 1) := by decide +kernel
theorem dX10_bring_7 : decode cX10_bring 7 = .ok (.bipush 101, 2) := by decide +kernel
theorem dX10_bring_9 : decode cX10_bring 9 = .ok (.if_icmp .ne 7, 3) := by decide +kernel
theorem dX10_bring_12 : decode cX10_bring 12 = .ok (.iconst 1, 1) := by decide +kernel
theorem dX10_bring_13 : decode cX10_bring 13 = .ok (.goto 4, 3) := by decide +kernel
theorem dX10_bring_16 : decode cX10_bring 16 = .ok (.iconst 0, 1) := by decide +kernel
theorem dX10_bring_17 : decode cX10_bring 17 = .ok (.istore_n 3, 1) := by decide +kernel
theorem dX10_bring_18 : decode cX10_bring 18 = .ok (.iload_n 3, 1) := by decide +kernel
theorem dX10_bring_19 : decode cX10_bring 19 = .ok (.ifCond .eq 17, 3) := by decide +kernel
theorem dX10_bring_22 : decode cX10_bring 22 = .ok (.aload_n 0, 1) := by decide +kernel
theorem dX10_bring_23 : decode cX10_bring 23 = .ok (.getfield 141, 3) := by decide +kernel
theorem dX10_bring_26 : decode cX10_bring 26 = .ok (.aload_n 0, 1) := by decide +kernel
theorem dX10_bring_27 : decode cX10_bring 27 = .ok (.getfield 138, 3) := by decide +kernel
theorem dX10_bring_30 : decode cX10_bring 30 = .ok (.isub, 1) := by decide +kernel
theorem dX10_bring_31 : decode cX10_bring 31 = .ok (.iconst 1, 1) := by decide +kernel
theorem dX10_bring_32 : decode cX10_bring 32 = .ok (.iadd, 1) := by decide +kernel
theorem dX10_bring_33 : decode cX10_bring 33 = .ok (.goto 4, 3) := by decide +kernel
theorem dX10_bring_36 : decode cX10_bring 36 = .ok (.iconst 0, 1) := by decide +kernel
theorem dX10_bring_37 : decode cX10_bring 37 = .ok (.istore 4, 2) := by decide +kernel
theorem dX10_bring_39 : decode cX10_bring 39 = .ok (.aload_n 0, 1) := by decide +kernel
theorem dX10_bring_40 : decode cX10_bring 40 = .ok (.getfield 15, 3) := by decide +kernel
theorem dX10_bring_43 : decode cX10_bring 43 = .ok (.getfield 123, 3) := by decide +kernel
theorem dX10_bring_46 : decode cX10_bring 46 = .ok (.getfield 126, 3) := by decide +kernel
theorem dX10_bring_49 : decode cX10_bring 49 = .ok (.iload 4, 2) := by decide +kernel
theorem dX10_bring_51 : decode cX10_bring 51 = .ok (.isub, 1) := by decide +kernel
theorem dX10_bring_52 : decode cX10_bring 52 = .ok (.aload_n 2, 1) := by decide +kernel
theorem dX10_bring_53 : decode cX10_bring 53 = .ok (.getfield 126, 3) := by decide +kernel
theorem dX10_bring_56 : decode cX10_bring 56 = .ok (.iadd, 1) := by decide +kernel
theorem dX10_bring_57 : decode cX10_bring 57 = .ok (.bipush 40, 2) := by decide +kernel
theorem dX10_bring_59 : decode cX10_bring 59 = .ok (.if_icmp .le 5, 3) := by decide +kernel
theorem dX10_bring_62 : decode cX10_bring 62 = .ok (.iconst 4, 1) := by decide +kernel
theorem dX10_bring_63 : decode cX10_bring 63 = .ok (.ireturn, 1) := by decide +kernel
theorem dX10_bring_64 : decode cX10_bring 64 = .ok (.iload_n 3, 1) := by decide +kernel
theorem dX10_bring_65 : decode cX10_bring 65 = .ok (.ifCond .ne 9, 3) := by decide +kernel
theorem dX10_bring_68 : decode cX10_bring 68 = .ok (.iload_n 1, 1) := by decide +kernel
theorem dX10_bring_69 : decode cX10_bring 69 = .ok (.bipush 105, 2) := by decide +kernel
theorem dX10_bring_71 : decode cX10_bring 71 = .ok (.if_icmp .ne 10, 3) := by decide +kernel
theorem dX10_bring_74 : decode cX10_bring 74 = .ok (.aload_n 0, 1) := by decide +kernel
theorem dX10_bring_75 : decode cX10_bring 75 = .ok (.getfield 138, 3) := by decide +kernel
theorem dX10_bring_78 : decode cX10_bring 78 = .ok (.goto 9, 3) := by decide +kernel
theorem dX10_bring_81 : decode cX10_bring 81 = .ok (.aload_n 0, 1) := by decide +kernel
theorem dX10_bring_82 : decode cX10_bring 82 = .ok (.getfield 141, 3) := by decide +kernel
theorem dX10_bring_85 : decode cX10_bring 85 = .ok (.iconst 1, 1) := by decide +kernel
theorem dX10_bring_86 : decode cX10_bring 86 = .ok (.iadd, 1) := by decide +kernel
theorem dX10_bring_87 : decode cX10_bring 87 = .ok (.istore 5, 2) := by decide +kernel
theorem dX10_bring_89 : decode cX10_bring 89 = .ok (.aload_n 0, 1) := by decide +kernel
theorem dX10_bring_90 : decode cX10_bring 90 = .ok (.getfield 15, 3) := by decide +kernel
theorem dX10_bring_93 : decode cX10_bring 93 = .ok (.aload_n 0, 1) := by decide +kernel
theorem dX10_bring_94 : decode cX10_bring 94 = .ok (.getfield 138, 3) := by decide +kernel
theorem dX10_bring_97 : decode cX10_bring 97 = .ok (.iload 4, 2) := by decide +kernel
theorem dX10_bring_99 : decode cX10_bring 99 = .ok (.invokevirtual 247, 3) := by decide +kernel
theorem dX10_bring_102 : decode cX10_bring 102 = .ok (.aload_n 0, 1) := by decide +kernel
theorem dX10_bring_103 : decode cX10_bring 103 = .ok (.getfield 15, 3) := by decide +kernel
theorem dX10_bring_106 : decode cX10_bring 106 = .ok (.iload 5, 2) := by decide +kernel
theorem dX10_bring_108 : decode cX10_bring 108 = .ok (.aload_n 2, 1) := by decide +kernel
theorem dX10_bring_109 : decode cX10_bring 109 = .ok (.getfield 126, 3) := by decide +kernel
theorem dX10_bring_112 : decode cX10_bring 112 = .ok (.invokevirtual 276, 3) := by decide +kernel
theorem dX10_bring_115 : decode cX10_bring 115 = .ok (.pop, 1) := by decide +kernel
theorem dX10_bring_116 : decode cX10_bring 116 = .ok (.iconst 1, 1) := by decide +kernel
theorem dX10_bring_117 : decode cX10_bring 117 = .ok (.istore 6, 2) := by decide +kernel
theorem dX10_bring_119 : decode cX10_bring 119 = .ok (.iload 6, 2) := by decide +kernel
theorem dX10_bring_121 : decode cX10_bring 121 = .ok (.aload_n 2, 1) := by decide +kernel
theorem dX10_bring_122 : decode cX10_bring 122 = .ok (.getfield 126, 3) := by decide +kernel
theorem dX10_bring_125 : decode cX10_bring 125 = .ok (.if_icmp .gt 29, 3) := by decide +kernel
theorem dX10_bring_128 : decode cX10_bring 128 = .ok (.aload_n 0, 1) := by decide +kernel
theorem dX10_bring_129 : decode cX10_bring 129 = .ok (.getfield 15, 3) := by decide +kernel
theorem dX10_bring_132 : decode cX10_bring 132 = .ok (.getfield 123, 3) := by decide +kernel
theorem dX10_bring_135 : decode cX10_bring 135 = .ok (.iload 5, 2) := by decide +kernel
theorem dX10_bring_137 : decode cX10_bring 137 = .ok (.iload 6, 2) := by decide +kernel
theorem dX10_bring_139 : decode cX10_bring 139 = .ok (.iadd, 1) := by decide +kernel
theorem dX10_bring_140 : decode cX10_bring 140 = .ok (.iconst 1, 1) := by decide +kernel
theorem dX10_bring_141 : decode cX10_bring 141 = .ok (.isub, 1) := by decide +kernel
theorem dX10_bring_142 : decode cX10_bring 142 = .ok (.aload_n 2, 1) := by decide +kernel
theorem dX10_bring_143 : decode cX10_bring 143 = .ok (.iload 6, 2) := by decide +kernel
theorem dX10_bring_145 : decode cX10_bring 145 = .ok (.invokevirtual 280, 3) := by decide +kernel
theorem dX10_bring_148 : decode cX10_bring 148 = .ok (.iinc 6 1, 3) := by decide +kernel
theorem dX10_bring_151 : decode cX10_bring 151 = .ok (.goto (-32), 3) := by decide +kernel
theorem dX10_bring_154 : decode cX10_bring 154 = .ok (.aload_n 0, 1) := by decide +kernel
theorem dX10_bring_155 : decode cX10_bring 155 = .ok (.getfield 15, 3) := by decide +kernel
theorem dX10_bring_158 : decode cX10_bring 158 = .ok (.iload 5, 2) := by decide +kernel
theorem dX10_bring_160 : decode cX10_bring 160 = .ok (.aload_n 2, 1) := by decide +kernel
theorem dX10_bring_161 : decode cX10_bring 161 = .ok (.getfield 126, 3) := by decide +kernel
theorem dX10_bring_164 : decode cX10_bring 164 = .ok (.iadd, 1) := by decide +kernel
theorem dX10_bring_165 : decode cX10_bring 165 = .ok (.iconst 1, 1) := by decide +kernel
theorem dX10_bring_166 : decode cX10_bring 166 = .ok (.isub, 1) := by decide +kernel
theorem dX10_bring_167 : decode cX10_bring 167 = .ok (.putfield 135, 3) := by decide +kernel
theorem dX10_bring_170 : decode cX10_bring 170 = .ok (.iconst 0, 1) := by decide +kernel
theorem dX10_bring_171 : decode cX10_bring 171 = .ok (.ireturn, 1) := by decide +kernel
theorem dX10_readFile_0 : decode cX10_readFile 0 = .ok (.aload_n 1, 1) := by decide +kernel
theorem dX10_readFile_1 : decode cX10_readFile 1 = .ok (.ifnull 10, 3) := by decide +kernel
theorem dX10_readFile_4 : decode cX10_readFile 4 = .ok (.aload_n 1, 1) := by decide +kernel
theorem dX10_readFile_5 : decode cX10_readFile 5 = .ok (.getfield 126, 3) := by decide +kernel
theorem dX10_readFile_8 : decode cX10_readFile 8 = .ok (.ifCond .ne 7, 3) := by decide +kernel
theorem dX10_readFile_11 : decode cX10_readFile 11 = .ok (.iconst 0, 1) := by decide +kernel
theorem dX10_readFile_12 : decode cX10_readFile 12 = .ok (.goto 10, 3) := by decide +kernel
theorem dX10_readFile_15 : decode cX10_readFile 15 = .ok (.aload_n 0, 1) := by decide +kernel
theorem dX10_readFile_16 : decode cX10_readFile 16 = .ok (.bipush 114, 2) := by decide +kernel
theorem dX10_readFile_18 : decode cX10_readFile 18 = .ok (.aload_n 1, 1) := by decide +kernel
theorem dX10_readFile_19 : decode cX10_readFile 19 = .ok (.invokevirtual 228, 3) := by decide +kernel
theorem dX10_readFile_22 : decode cX10_readFile 22 = .ok (.ireturn, 1) := by decide +kernel
theorem dX10_exchange_0 : decode cX10_exchange 0 = .ok (.aload_n 0, 1) := by decide +kernel
theorem dX10_exchange_1 : decode cX10_exchange 1 = .ok (.getfield 19, 3) := by decide +kernel
theorem dX10_exchange_4 : decode cX10_exchange 4 = .ok (.getfield 232, 3) := by decide +kernel
theorem dX10_exchange_7 : decode cX10_exchange 7 = .ok (.getfield 126, 3) := by decide +kernel
theorem dX10_exchange_10 : decode cX10_exchange 10 = .ok (.ifCond .ne 5, 3) := by decide +kernel
theorem dX10_exchange_13 : decode cX10_exchange 13 = .ok (.iconst 5, 1) := by decide +kernel
theorem dX10_exchange_14 : decode cX10_exchange 14 = .ok (.ireturn, 1) := by decide +kernel
theorem dX10_exchange_15 : decode cX10_exchange 15 = .ok (.aload_n 0, 1) := by decide +kernel
theorem dX10_exchange_16 : decode cX10_exchange 16 = .ok (.getfield 43, 3) := by decide +kernel
theorem dX10_exchange_19 : decode cX10_exchange 19 = .ok (.aload_n 0, 1) := by decide +kernel
theorem dX10_exchange_20 : decode cX10_exchange 20 = .ok (.getfield 19, 3) := by decide +kernel
theorem dX10_exchange_23 : decode cX10_exchange 23 = .ok (.getfield 232, 3) := by decide +kernel
theorem dX10_exchange_26 : decode cX10_exchange 26 = .ok (.invokevirtual 284, 3) := by decide +kernel
theorem dX10_exchange_29 : decode cX10_exchange 29 = .ok (.aload_n 0, 1) := by decide +kernel
theorem dX10_exchange_30 : decode cX10_exchange 30 = .ok (.getfield 50, 3) := by decide +kernel
theorem dX10_exchange_33 : decode cX10_exchange 33 = .ok (.aload_n 0, 1) := by decide +kernel
theorem dX10_exchange_34 : decode cX10_exchange 34 = .ok (.getfield 15, 3) := by decide +kernel
theorem dX10_exchange_37 : decode cX10_exchange 37 = .ok (.invokevirtual 287, 3) := by decide +kernel
theorem dX10_exchange_40 : decode cX10_exchange 40 = .ok (.aload_n 0, 1) := by decide +kernel
theorem dX10_exchange_41 : decode cX10_exchange 41 = .ok (.bipush 101, 2) := by decide +kernel
theorem dX10_exchange_43 : decode cX10_exchange 43 = .ok (.aload_n 0, 1) := by decide +kernel
theorem dX10_exchange_44 : decode cX10_exchange 44 = .ok (.getfield 43, 3) := by decide +kernel
theorem dX10_exchange_47 : decode cX10_exchange 47 = .ok (.invokevirtual 228, 3) := by decide +kernel
theorem dX10_exchange_50 : decode cX10_exchange 50 = .ok (.istore_n 1, 1) := by decide +kernel
theorem dX10_exchange_51 : decode cX10_exchange 51 = .ok (.iload_n 1, 1) := by decide +kernel
theorem dX10_exchange_52 : decode cX10_exchange 52 = .ok (.ifCond .ne 25, 3) := by decide +kernel
theorem dX10_exchange_55 : decode cX10_exchange 55 = .ok (.aload_n 0, 1) := by decide +kernel
theorem dX10_exchange_56 : decode cX10_exchange 56 = .ok (.getfield 19, 3) := by decide +kernel
theorem dX10_exchange_59 : decode cX10_exchange 59 = .ok (.aload_n 0, 1) := by decide +kernel
theorem dX10_exchange_60 : decode cX10_exchange 60 = .ok (.getfield 50, 3) := by decide +kernel
theorem dX10_exchange_63 : decode cX10_exchange 63 = .ok (.getfield 123, 3) := by decide +kernel
theorem dX10_exchange_66 : decode cX10_exchange 66 = .ok (.aload_n 0, 1) := by decide +kernel
theorem dX10_exchange_67 : decode cX10_exchange 67 = .ok (.getfield 138, 3) := by decide +kernel
theorem dX10_exchange_70 : decode cX10_exchange 70 = .ok (.aload_n 0, 1) := by decide +kernel
theorem dX10_exchange_71 : decode cX10_exchange 71 = .ok (.getfield 141, 3) := by decide +kernel
theorem dX10_exchange_74 : decode cX10_exchange 74 = .ok (.invokevirtual 289, 3) := by decide +kernel
theorem dX10_exchange_77 : decode cX10_exchange 77 = .ok (.iload_n 1, 1) := by decide +kernel
theorem dX10_exchange_78 : decode cX10_exchange 78 = .ok (.ireturn, 1) := by decide +kernel
theorem dX10_join_0 : decode cX10_join 0 = .ok (.aload_n 0, 1) := by decide +kernel
theorem dX10_join_1 : decode cX10_join 1 = .ok (.getfield 138, 3) := by decide +kernel
theorem dX10_join_4 : decode cX10_join 4 = .ok (.aload_n 0, 1) := by decide +kernel
theorem dX10_join_5 : decode cX10_join 5 = .ok (.getfield 141, 3) := by decide +kernel
theorem dX10_join_8 : decode cX10_join 8 = .ok (.if_icmp .ne 12, 3) := by decide +kernel
theorem dX10_join_11 : decode cX10_join 11 = .ok (.aload_n 0, 1) := by decide +kernel
theorem dX10_join_12 : decode cX10_join 12 = .ok (.getfield 141, 3) := by decide +kernel
theorem dX10_join_15 : decode cX10_join 15 = .ok (.iconst 1, 1) := by decide +kernel
theorem dX10_join_16 : decode cX10_join 16 = .ok (.iadd, 1) := by decide +kernel
theorem dX10_join_17 : decode cX10_join 17 = .ok (.goto 7, 3) := by decide +kernel
theorem dX10_join_20 : decode cX10_join 20 = .ok (.aload_n 0, 1) := by decide +kernel
theorem dX10_join_21 : decode cX10_join 21 = .ok (.getfield 141, 3) := by decide +kernel
theorem dX10_join_24 : decode cX10_join 24 = .ok (.istore_n 1, 1) := by decide +kernel
theorem dX10_join_25 : decode cX10_join 25 = .ok (.iload_n 1, 1) := by decide +kernel
theorem dX10_join_26 : decode cX10_join 26 = .ok (.aload_n 0, 1) := by decide +kernel
theorem dX10_join_27 : decode cX10_join 27 = .ok (.getfield 15, 3) := by decide +kernel
theorem dX10_join_30 : decode cX10_join 30 = .ok (.getfield 123, 3) := by decide +kernel
theorem dX10_join_33 : decode cX10_join 33 = .ok (.getfield 126, 3) := by decide +kernel
theorem dX10_join_36 : decode cX10_join 36 = .ok (.if_icmp .le 5, 3) := by decide +kernel
theorem dX10_join_39 : decode cX10_join 39 = .ok (.iconst 1, 1) := by decide +kernel
theorem dX10_join_40 : decode cX10_join 40 = .ok (.ireturn, 1) := by decide +kernel
theorem dX10_join_41 : decode cX10_join 41 = .ok (.aload_n 0, 1) := by decide +kernel
theorem dX10_join_42 : decode cX10_join 42 = .ok (.getfield 138, 3) := by decide +kernel
theorem dX10_join_45 : decode cX10_join 45 = .ok (.iconst 1, 1) := by decide +kernel
theorem dX10_join_46 : decode cX10_join 46 = .ok (.iadd, 1) := by decide +kernel
theorem dX10_join_47 : decode cX10_join 47 = .ok (.istore_n 2, 1) := by decide +kernel
theorem dX10_join_48 : decode cX10_join 48 = .ok (.iload_n 2, 1) := by decide +kernel
theorem dX10_join_49 : decode cX10_join 49 = .ok (.iload_n 1, 1) := by decide +kernel
theorem dX10_join_50 : decode cX10_join 50 = .ok (.if_icmp .gt 36, 3) := by decide +kernel
theorem dX10_join_53 : decode cX10_join 53 = .ok (.aload_n 0, 1) := by decide +kernel
theorem dX10_join_54 : decode cX10_join 54 = .ok (.getfield 15, 3) := by decide +kernel
theorem dX10_join_57 : decode cX10_join 57 = .ok (.getfield 123, 3) := by decide +kernel
theorem dX10_join_60 : decode cX10_join 60 = .ok (.aload_n 0, 1) := by decide +kernel
theorem dX10_join_61 : decode cX10_join 61 = .ok (.getfield 138, 3) := by decide +kernel
theorem dX10_join_64 : decode cX10_join 64 = .ok (.aload_n 0, 1) := by decide +kernel
theorem dX10_join_65 : decode cX10_join 65 = .ok (.getfield 15, 3) := by decide +kernel
theorem dX10_join_68 : decode cX10_join 68 = .ok (.getfield 123, 3) := by decide +kernel
theorem dX10_join_71 : decode cX10_join 71 = .ok (.iload_n 2, 1) := by decide +kernel
theorem dX10_join_72 : decode cX10_join 72 = .ok (.invokevirtual 293, 3) := by decide +kernel
theorem dX10_join_75 : decode cX10_join 75 = .ok (.ifCond .ne 5, 3) := by decide +kernel
theorem dX10_join_78 : decode cX10_join 78 = .ok (.iconst 4, 1) := by decide +kernel
theorem dX10_join_79 : decode cX10_join 79 = .ok (.ireturn, 1) := by decide +kernel
theorem dX10_join_80 : decode cX10_join 80 = .ok (.iinc 2 1, 3) := by decide +kernel
theorem dX10_join_83 : decode cX10_join 83 = .ok (.goto (-35), 3) := by decide +kernel
theorem dX10_join_86 : decode cX10_join 86 = .ok (.aload_n 0, 1) := by decide +kernel
theorem dX10_join_87 : decode cX10_join 87 = .ok (.getfield 15, 3) := by decide +kernel
theorem dX10_join_90 : decode cX10_join 90 = .ok (.aload_n 0, 1) := by decide +kernel
theorem dX10_join_91 : decode cX10_join 91 = .ok (.getfield 138, 3) := by decide +kernel
theorem dX10_join_94 : decode cX10_join 94 = .ok (.iconst 1, 1) := by decide +kernel
theorem dX10_join_95 : decode cX10_join 95 = .ok (.iadd, 1) := by decide +kernel
theorem dX10_join_96 : decode cX10_join 96 = .ok (.iload_n 1, 1) := by decide +kernel
theorem dX10_join_97 : decode cX10_join 97 = .ok (.aload_n 0, 1) := by decide +kernel
theorem dX10_join_98 : decode cX10_join 98 = .ok (.getfield 138, 3) := by decide +kernel
theorem dX10_join_101 : decode cX10_join 101 = .ok (.isub, 1) := by decide +kernel
theorem dX10_join_102 : decode cX10_join 102 = .ok (.invokevirtual 247, 3) := by decide +kernel
theorem dX10_join_105 : decode cX10_join 105 = .ok (.aload_n 0, 1) := by decide +kernel
theorem dX10_join_106 : decode cX10_join 106 = .ok (.getfield 15, 3) := by decide +kernel
theorem dX10_join_109 : decode cX10_join 109 = .ok (.aload_n 0, 1) := by decide +kernel
theorem dX10_join_110 : decode cX10_join 110 = .ok (.getfield 138, 3) := by decide +kernel
theorem dX10_join_113 : decode cX10_join 113 = .ok (.putfield 135, 3) := by decide +kernel
theorem dX10_join_116 : decode cX10_join 116 = .ok (.iconst 0, 1) := by decide +kernel
theorem dX10_join_117 : decode cX10_join 117 = .ok (.ireturn, 1) := by decide +kernel
theorem dX10_part_0 : decode cX10_part 0 = .ok (.aload_n 0, 1) := by decide +kernel
theorem dX10_part_1 : decode cX10_part 1 = .ok (.getfield 138, 3) := by decide +kernel
theorem dX10_part_4 : decode cX10_part 4 = .ok (.istore_n 2, 1) := by decide +kernel
theorem dX10_part_5 : decode cX10_part 5 = .ok (.aload_n 0, 1) := by decide +kernel
theorem dX10_part_6 : decode cX10_part 6 = .ok (.getfield 141, 3) := by decide +kernel
theorem dX10_part_9 : decode cX10_part 9 = .ok (.aload_n 0, 1) := by decide +kernel
theorem dX10_part_10 : decode cX10_part 10 = .ok (.getfield 138, 3) := by decide +kernel
theorem dX10_part_13 : decode cX10_part 13 = .ok (.isub, 1) := by decide +kernel
theorem dX10_part_14 : decode cX10_part 14 = .ok (.iconst 1, 1) := by decide +kernel
theorem dX10_part_15 : decode cX10_part 15 = .ok (.iadd, 1) := by decide +kernel
theorem dX10_part_16 : decode cX10_part 16 = .ok (.istore_n 3, 1) := by decide +kernel
theorem dX10_part_17 : decode cX10_part 17 = .ok (.iload_n 3, 1) := by decide +kernel
theorem dX10_part_18 : decode cX10_part 18 = .ok (.ifCond .le 58, 3) := by decide +kernel
theorem dX10_part_21 : decode cX10_part 21 = .ok (.aload_n 0, 1) := by decide +kernel
theorem dX10_part_22 : decode cX10_part 22 = .ok (.getfield 15, 3) := by decide +kernel
theorem dX10_part_25 : decode cX10_part 25 = .ok (.getfield 123, 3) := by decide +kernel
theorem dX10_part_28 : decode cX10_part 28 = .ok (.iload_n 2, 1) := by decide +kernel
theorem dX10_part_29 : decode cX10_part 29 = .ok (.invokevirtual 297, 3) := by decide +kernel
theorem dX10_part_32 : decode cX10_part 32 = .ok (.iload_n 1, 1) := by decide +kernel
theorem dX10_part_33 : decode cX10_part 33 = .ok (.if_icmp .le 34, 3) := by decide +kernel
theorem dX10_part_36 : decode cX10_part 36 = .ok (.aload_n 0, 1) := by decide +kernel
theorem dX10_part_37 : decode cX10_part 37 = .ok (.getfield 15, 3) := by decide +kernel
theorem dX10_part_40 : decode cX10_part 40 = .ok (.iload_n 2, 1) := by decide +kernel
theorem dX10_part_41 : decode cX10_part 41 = .ok (.iconst 1, 1) := by decide +kernel
theorem dX10_part_42 : decode cX10_part 42 = .ok (.iadd, 1) := by decide +kernel
theorem dX10_part_43 : decode cX10_part 43 = .ok (.iconst 1, 1) := by decide +kernel
theorem dX10_part_44 : decode cX10_part 44 = .ok (.invokevirtual 276, 3) := by decide +kernel
theorem dX10_part_47 : decode cX10_part 47 = .ok (.ifCond .ne 5, 3) := by decide +kernel
theorem dX10_part_50 : decode cX10_part 50 = .ok (.iconst 4, 1) := by decide +kernel
theorem dX10_part_51 : decode cX10_part 51 = .ok (.ireturn, 1) := by decide +kernel
theorem dX10_part_52 : decode cX10_part 52 = .ok (.aload_n 0, 1) := by decide +kernel
theorem dX10_part_53 : decode cX10_part 53 = .ok (.getfield 15, 3) := by decide +kernel
theorem dX10_part_56 : decode cX10_part 56 = .ok (.getfield 123, 3) := by decide +kernel
theorem dX10_part_59 : decode cX10_part 59 = .ok (.iload_n 2, 1) := by decide +kernel
theorem dX10_part_60 : decode cX10_part 60 = .ok (.iload_n 1, 1) := by decide +kernel
theorem dX10_part_61 : decode cX10_part 61 = .ok (.invokevirtual 300, 3) := by decide +kernel
theorem dX10_part_64 : decode cX10_part 64 = .ok (.iinc 2 1, 3) := by decide +kernel
theorem dX10_part_67 : decode cX10_part 67 = .ok (.iinc 2 1, 3) := by decide +kernel
theorem dX10_part_70 : decode cX10_part 70 = .ok (.iinc 3 (-1), 3) := by decide +kernel
theorem dX10_part_73 : decode cX10_part 73 = .ok (.goto (-56), 3) := by decide +kernel
theorem dX10_part_76 : decode cX10_part 76 = .ok (.aload_n 0, 1) := by decide +kernel
theorem dX10_part_77 : decode cX10_part 77 = .ok (.getfield 15, 3) := by decide +kernel
theorem dX10_part_80 : decode cX10_part 80 = .ok (.iload_n 2, 1) := by decide +kernel
theorem dX10_part_81 : decode cX10_part 81 = .ok (.iconst 1, 1) := by decide +kernel
theorem dX10_part_82 : decode cX10_part 82 = .ok (.isub, 1) := by decide +kernel
theorem dX10_part_83 : decode cX10_part 83 = .ok (.putfield 135, 3) := by decide +kernel
theorem dX10_part_86 : decode cX10_part 86 = .ok (.iconst 0, 1) := by decide +kernel
theorem dX10_part_87 : decode cX10_part 87 = .ok (.ireturn, 1) := by decide +kernel
theorem dX10_leaveOutSame_0 : decode cX10_leaveOutSame 0 = .ok (.aload_n 0, 1) := by decide +kernel
theorem dX10_leaveOutSame_1 : decode cX10_leaveOutSame 1 = .ok (.getfield 138, 3) := by decide +kernel
theorem dX10_leaveOutSame_4 : decode cX10_leaveOutSame 4 = .ok (.iconst 1, 1) := by decide +kernel
theorem dX10_leaveOutSame_5 : decode cX10_leaveOutSame 5 = .ok (.iadd, 1) := by decide +kernel
theorem dX10_leaveOutSame_6 : decode cX10_leaveOutSame 6 = .ok (.istore_n 1, 1) := by decide +kernel
theorem dX10_leaveOutSame_7 : decode cX10_leaveOutSame 7 = .ok (.aload_n 0, 1) := by decide +kernel
theorem dX10_leaveOutSame_8 : decode cX10_leaveOutSame 8 = .ok (.getfield 141, 3) := by decide +kernel
theorem dX10_leaveOutSame_11 : decode cX10_leaveOutSame 11 = .ok (.aload_n 0, 1) := by decide +kernel
theorem dX10_leaveOutSame_12 : decode cX10_leaveOutSame 12 = .ok (.getfield 138, 3) := by decide +kernel
theorem dX10_leaveOutSame_15 : decode cX10_leaveOutSame 15 = .ok (.isub, 1) := by decide +kernel
theorem dX10_leaveOutSame_16 : decode cX10_leaveOutSame 16 = .ok (.istore_n 2, 1) := by decide +kernel
theorem dX10_leaveOutSame_17 : decode cX10_leaveOutSame 17 = .ok (.iload_n 2, 1) := by decide +kernel
theorem dX10_leaveOutSame_18 : decode cX10_leaveOutSame 18 = .ok (.ifCond .le 48, 3) := by decide +kernel
theorem dX10_leaveOutSame_21 : decode cX10_leaveOutSame 21 = .ok (.aload_n 0, 1) := by decide +kernel
theorem dX10_leaveOutSame_22 : decode cX10_leaveOutSame 22 = .ok (.getfield 15, 3) := by decide +kernel
theorem dX10_leaveOutSame_25 : decode cX10_leaveOutSame 25 = .ok (.getfield 123, 3) := by decide +kernel
theorem dX10_leaveOutSame_28 : decode cX10_leaveOutSame 28 = .ok (.iload_n 1, 1) := by decide +kernel
theorem dX10_leaveOutSame_29 : decode cX10_leaveOutSame 29 = .ok (.aload_n 0, 1) := by decide +kernel
theorem dX10_leaveOutSame_30 : decode cX10_leaveOutSame 30 = .ok (.getfield 15, 3) := by decide +kernel
theorem dX10_leaveOutSame_33 : decode cX10_leaveOutSame 33 = .ok (.getfield 123, 3) := by decide +kernel
theorem dX10_leaveOutSame_36 : decode cX10_leaveOutSame 36 = .ok (.iload_n 1, 1) := by decide +kernel
theorem dX10_leaveOutSame_37 : decode cX10_leaveOutSame 37 = .ok (.iconst 1, 1) := by decide +kernel
theorem dX10_leaveOutSame_38 : decode cX10_leaveOutSame 38 = .ok (.isub, 1) := by decide +kernel
theorem dX10_leaveOutSame_39 : decode cX10_leaveOutSame 39 = .ok (.invokevirtual 303, 3) := by decide +kernel
theorem dX10_leaveOutSame_42 : decode cX10_leaveOutSame 42 = .ok (.ifCond .eq 15, 3) := by decide +kernel
theorem dX10_leaveOutSame_45 : decode cX10_leaveOutSame 45 = .ok (.aload_n 0, 1) := by decide +kernel
theorem dX10_leaveOutSame_46 : decode cX10_leaveOutSame 46 = .ok (.getfield 15, 3) := by decide +kernel
theorem dX10_leaveOutSame_49 : decode cX10_leaveOutSame 49 = .ok (.iload_n 1, 1) := by decide +kernel
theorem dX10_leaveOutSame_50 : decode cX10_leaveOutSame 50 = .ok (.iconst 1, 1) := by decide +kernel
theorem dX10_leaveOutSame_51 : decode cX10_leaveOutSame 51 = .ok (.invokevirtual 247, 3) := by decide +kernel
theorem dX10_leaveOutSame_54 : decode cX10_leaveOutSame 54 = .ok (.goto 6, 3) := by decide +kernel
theorem dX10_leaveOutSame_57 : decode cX10_leaveOutSame 57 = .ok (.iinc 1 1, 3) := by decide +kernel
theorem dX10_leaveOutSame_60 : decode cX10_leaveOutSame 60 = .ok (.iinc 2 (-1), 3) := by decide +kernel
theorem dX10_leaveOutSame_63 : decode cX10_leaveOutSame 63 = .ok (.goto (-46), 3) := by decide +kernel
theorem dX10_leaveOutSame_66 : decode cX10_leaveOutSame 66 = .ok (.aload_n 0, 1) := by decide +kernel
theorem dX10_leaveOutSame_67 : decode cX10_leaveOutSame 67 = .ok (.getfield 15, 3) := by decide +kernel
theorem dX10_leaveOutSame_70 : decode cX10_leaveOutSame 70 = .ok (.iload_n 1, 1) := by decide +kernel
theorem dX10_leaveOutSame_71 : decode cX10_leaveOutSame 71 = .ok (.iconst 1, 1) := by decide +kernel
theorem dX10_leaveOutSame_72 : decode cX10_leaveOutSame 72 = .ok (.isub, 1) := by decide +kernel
theorem dX10_leaveOutSame_73 : decode cX10_leaveOutSame 73 = .ok (.putfield 135, 3) := by decide +kernel
theorem dX10_leaveOutSame_76 : decode cX10_leaveOutSame 76 = .ok (.iconst 0, 1) := by decide +kernel
theorem dX10_leaveOutSame_77 : decode cX10_leaveOutSame 77 = .ok (.ireturn, 1) := by decide +kernel
theorem dX10_move_0 : decode cX10_move 0 = .ok (.iload_n 1, 1) := by decide +kernel
theorem dX10_move_1 : decode cX10_move 1 = .ok (.ifCond .ge 6, 3) := by decide +kernel
theorem dX10_move_4 : decode cX10_move 4 = .ok (.iload_n 1, 1) := by decide +kernel
theorem dX10_move_5 : decode cX10_move 5 = .ok (.ineg, 1) := by decide +kernel
theorem dX10_move_6 : decode cX10_move 6 = .ok (.ireturn, 1) := by decide +kernel
theorem dX10_move_7 : decode cX10_move 7 = .ok (.iload_n 1, 1) := by decide +kernel
theorem dX10_move_8 : decode cX10_move 8 = .ok (.aload_n 0, 1) := by decide +kernel
theorem dX10_move_9 : decode cX10_move 9 = .ok (.getfield 138, 3) := by decide +kernel
theorem dX10_move_12 : decode cX10_move 12 = .ok (.if_icmp .lt 13, 3) := by decide +kernel
theorem dX10_move_15 : decode cX10_move 15 = .ok (.iload_n 1, 1) := by decide +kernel
theorem dX10_move_16 : decode cX10_move 16 = .ok (.aload_n 0, 1) := by decide +kernel
theorem dX10_move_17 : decode cX10_move 17 = .ok (.getfield 141, 3) := by decide +kernel
theorem dX10_move_20 : decode cX10_move 20 = .ok (.if_icmp .ge 5, 3) := by decide +kernel
theorem dX10_move_23 : decode cX10_move 23 = .ok (.iconst 1, 1) := by decide +kernel
theorem dX10_move_24 : decode cX10_move 24 = .ok (.ireturn, 1) := by decide +kernel
theorem dX10_move_25 : decode cX10_move 25 = .ok (.aload_n 0, 1) := by decide +kernel
theorem dX10_move_26 : decode cX10_move 26 = .ok (.getfield 141, 3) := by decide +kernel
theorem dX10_move_29 : decode cX10_move 29 = .ok (.aload_n 0, 1) := by decide +kernel
theorem dX10_move_30 : decode cX10_move 30 = .ok (.getfield 138, 3) := by decide +kernel
theorem dX10_move_33 : decode cX10_move 33 = .ok (.isub, 1) := by decide +kernel
theorem dX10_move_34 : decode cX10_move 34 = .ok (.iconst 1, 1) := by decide +kernel
theorem dX10_move_35 : decode cX10_move 35 = .ok (.iadd, 1) := by decide +kernel
theorem dX10_move_36 : decode cX10_move 36 = .ok (.istore_n 2, 1) := by decide +kernel
theorem dX10_move_37 : decode cX10_move 37 = .ok (.iload_n 1, 1) := by decide +kernel
theorem dX10_move_38 : decode cX10_move 38 = .ok (.aload_n 0, 1) := by decide +kernel
theorem dX10_move_39 : decode cX10_move 39 = .ok (.getfield 138, 3) := by decide +kernel
theorem dX10_move_42 : decode cX10_move 42 = .ok (.if_icmp .ge 9, 3) := by decide +kernel
theorem dX10_move_45 : decode cX10_move 45 = .ok (.iload_n 1, 1) := by decide +kernel
theorem dX10_move_46 : decode cX10_move 46 = .ok (.iconst 1, 1) := by decide +kernel
theorem dX10_move_47 : decode cX10_move 47 = .ok (.iadd, 1) := by decide +kernel
theorem dX10_move_48 : decode cX10_move 48 = .ok (.goto 8, 3) := by decide +kernel
theorem dX10_move_51 : decode cX10_move 51 = .ok (.iload_n 1, 1) := by decide +kernel
theorem dX10_move_52 : decode cX10_move 52 = .ok (.iload_n 2, 1) := by decide +kernel
theorem dX10_move_53 : decode cX10_move 53 = .ok (.isub, 1) := by decide +kernel
theorem dX10_move_54 : decode cX10_move 54 = .ok (.iconst 1, 1) := by decide +kernel
theorem dX10_move_55 : decode cX10_move 55 = .ok (.iadd, 1) := by decide +kernel
theorem dX10_move_56 : decode cX10_move 56 = .ok (.istore_n 3, 1) := by decide +kernel
theorem dX10_move_57 : decode cX10_move 57 = .ok (.aload_n 0, 1) := by decide +kernel
theorem dX10_move_58 : decode cX10_move 58 = .ok (.iconst 0, 1) := by decide +kernel
theorem dX10_move_59 : decode cX10_move 59 = .ok (.iconst 1, 1) := by decide +kernel
theorem dX10_move_60 : decode cX10_move 60 = .ok (.iload_n 1, 1) := by decide +kernel
theorem dX10_move_61 : decode cX10_move 61 = .ok (.aload_n 0, 1) := by decide +kernel
theorem dX10_move_62 : decode cX10_move 62 = .ok (.getfield 138, 3) := by decide +kernel
theorem dX10_move_65 : decode cX10_move 65 = .ok (.iconst 1, 1) := by decide +kernel
theorem dX10_move_66 : decode cX10_move 66 = .ok (.isub, 1) := by decide +kernel
theorem dX10_move_67 : decode cX10_move 67 = .ok (.invokestatic 154, 3) := by decide +kernel
theorem dX10_move_70 : decode cX10_move 70 = .ok (.invokevirtual 306, 3) := by decide +kernel
theorem dX10_move_73 : decode cX10_move 73 = .ok (.istore 4, 2) := by decide +kernel
theorem dX10_move_75 : decode cX10_move 75 = .ok (.iload_n 1, 1) := by decide +kernel
theorem dX10_move_76 : decode cX10_move 76 = .ok (.aload_n 0, 1) := by decide +kernel
theorem dX10_move_77 : decode cX10_move 77 = .ok (.getfield 138, 3) := by decide +kernel
theorem dX10_move_80 : decode cX10_move 80 = .ok (.if_icmp .ge 39, 3) := by decide +kernel
theorem dX10_move_83 : decode cX10_move 83 = .ok (.aload_n 0, 1) := by decide +kernel
theorem dX10_move_84 : decode cX10_move 84 = .ok (.iload 4, 2) := by decide +kernel
theorem dX10_move_86 : decode cX10_move 86 = .ok (.aload_n 0, 1) := by decide +kernel
theorem dX10_move_87 : decode cX10_move 87 = .ok (.getfield 138, 3) := by decide +kernel
theorem dX10_move_90 : decode cX10_move 90 = .ok (.aload_n 0, 1) := by decide +kernel
theorem dX10_move_91 : decode cX10_move 91 = .ok (.getfield 141, 3) := by decide +kernel
theorem dX10_move_94 : decode cX10_move 94 = .ok (.invokevirtual 306, 3) := by decide +kernel
theorem dX10_move_97 : decode cX10_move 97 = .ok (.istore 4, 2) := by decide +kernel
theorem dX10_move_99 : decode cX10_move 99 = .ok (.aload_n 0, 1) := by decide +kernel
theorem dX10_move_100 : decode cX10_move 100 = .ok (.iload 4, 2) := by decide +kernel
theorem dX10_move_102 : decode cX10_move 102 = .ok (.iload_n 1, 1) := by decide +kernel
theorem dX10_move_103 : decode cX10_move 103 = .ok (.iconst 1, 1) := by decide +kernel
theorem dX10_move_104 : decode cX10_move 104 = .ok (.iadd, 1) := by decide +kernel
theorem dX10_move_105 : decode cX10_move 105 = .ok (.aload_n 0, 1) := by decide +kernel
theorem dX10_move_106 : decode cX10_move 106 = .ok (.getfield 138, 3) := by decide +kernel
theorem dX10_move_109 : decode cX10_move 109 = .ok (.iconst 1, 1) := by decide +kernel
theorem dX10_move_110 : decode cX10_move 110 = .ok (.isub, 1) := by decide +kernel
theorem dX10_move_111 : decode cX10_move 111 = .ok (.invokevirtual 306, 3) := by decide +kernel
theorem dX10_move_114 : decode cX10_move 114 = .ok (.istore 4, 2) := by decide +kernel
theorem dX10_move_116 : decode cX10_move 116 = .ok (.goto 34, 3) := by decide +kernel
theorem dX10_move_119 : decode cX10_move 119 = .ok (.aload_n 0, 1) := by decide +kernel
theorem dX10_move_120 : decode cX10_move 120 = .ok (.iload 4, 2) := by decide +kernel
theorem dX10_move_122 : decode cX10_move 122 = .ok (.aload_n 0, 1) := by decide +kernel
theorem dX10_move_123 : decode cX10_move 123 = .ok (.getfield 141, 3) := by decide +kernel
theorem dX10_move_126 : decode cX10_move 126 = .ok (.iconst 1, 1) := by decide +kernel
theorem dX10_move_127 : decode cX10_move 127 = .ok (.iadd, 1) := by decide +kernel
theorem dX10_move_128 : decode cX10_move 128 = .ok (.iload_n 1, 1) := by decide +kernel
theorem dX10_move_129 : decode cX10_move 129 = .ok (.invokevirtual 306, 3) := by decide +kernel
theorem dX10_move_132 : decode cX10_move 132 = .ok (.istore 4, 2) := by decide +kernel
theorem dX10_move_134 : decode cX10_move 134 = .ok (.aload_n 0, 1) := by decide +kernel
theorem dX10_move_135 : decode cX10_move 135 = .ok (.iload 4, 2) := by decide +kernel
theorem dX10_move_137 : decode cX10_move 137 = .ok (.aload_n 0, 1) := by decide +kernel
theorem dX10_move_138 : decode cX10_move 138 = .ok (.getfield 138, 3) := by decide +kernel
theorem dX10_move_141 : decode cX10_move 141 = .ok (.aload_n 0, 1) := by decide +kernel
theorem dX10_move_142 : decode cX10_move 142 = .ok (.getfield 141, 3) := by decide +kernel
theorem dX10_move_145 : decode cX10_move 145 = .ok (.invokevirtual 306, 3) := by decide +kernel
theorem dX10_move_148 : decode cX10_move 148 = .ok (.istore 4, 2) := by decide +kernel
theorem dX10_move_150 : decode cX10_move 150 = .ok (.aload_n 0, 1) := by decide +kernel
theorem dX10_move_151 : decode cX10_move 151 = .ok (.iload 4, 2) := by decide +kernel
theorem dX10_move_153 : decode cX10_move 153 = .ok (.iload_n 1, 1) := by decide +kernel
theorem dX10_move_154 : decode cX10_move 154 = .ok (.aload_n 0, 1) := by decide +kernel
theorem dX10_move_155 : decode cX10_move 155 = .ok (.getfield 141, 3) := by decide +kernel
theorem dX10_move_158 : decode cX10_move 158 = .ok (.invokestatic 310, 3) := by decide +kernel
theorem dX10_move_161 : decode cX10_move 161 = .ok (.iconst 1, 1) := by decide +kernel
theorem dX10_move_162 : decode cX10_move 162 = .ok (.iadd, 1) := by decide +kernel
theorem dX10_move_163 : decode cX10_move 163 = .ok (.aload_n 0, 1) := by decide +kernel
theorem dX10_move_164 : decode cX10_move 164 = .ok (.getfield 15, 3) := by decide +kernel
theorem dX10_move_167 : decode cX10_move 167 = .ok (.getfield 123, 3) := by decide +kernel
theorem dX10_move_170 : decode cX10_move 170 = .ok (.getfield 126, 3) := by decide +kernel
theorem dX10_move_173 : decode cX10_move 173 = .ok (.invokevirtual 306, 3) := by decide +kernel
theorem dX10_move_176 : decode cX10_move 176 = .ok (.pop, 1) := by decide +kernel
theorem dX10_move_177 : decode cX10_move 177 = .ok (.aload_n 0, 1) := by decide +kernel
theorem dX10_move_178 : decode cX10_move 178 = .ok (.getfield 15, 3) := by decide +kernel
theorem dX10_move_181 : decode cX10_move 181 = .ok (.aload_n 0, 1) := by decide +kernel
theorem dX10_move_182 : decode cX10_move 182 = .ok (.getfield 53, 3) := by decide +kernel
theorem dX10_move_185 : decode cX10_move 185 = .ok (.aload_n 0, 1) := by decide +kernel
theorem dX10_move_186 : decode cX10_move 186 = .ok (.getfield 50, 3) := by decide +kernel
theorem dX10_move_189 : decode cX10_move 189 = .ok (.invokevirtual 313, 3) := by decide +kernel
theorem dX10_move_192 : decode cX10_move 192 = .ok (.aload_n 0, 1) := by decide +kernel
theorem dX10_move_193 : decode cX10_move 193 = .ok (.getfield 15, 3) := by decide +kernel
theorem dX10_move_196 : decode cX10_move 196 = .ok (.iload_n 3, 1) := by decide +kernel
theorem dX10_move_197 : decode cX10_move 197 = .ok (.iload_n 2, 1) := by decide +kernel
theorem dX10_move_198 : decode cX10_move 198 = .ok (.iadd, 1) := by decide +kernel
theorem dX10_move_199 : decode cX10_move 199 = .ok (.iconst 1, 1) := by decide +kernel
theorem dX10_move_200 : decode cX10_move 200 = .ok (.isub, 1) := by decide +kernel
theorem dX10_move_201 : decode cX10_move 201 = .ok (.putfield 135, 3) := by decide +kernel
theorem dX10_move_204 : decode cX10_move 204 = .ok (.iconst 0, 1) := by decide +kernel
theorem dX10_move_205 : decode cX10_move 205 = .ok (.ireturn, 1) := by decide +kernel
theorem dX10_lineUp_0 : decode cX10_lineUp 0 = .ok (.iload_n 1, 1) := by decide +kernel
theorem dX10_lineUp_1 : decode cX10_lineUp 1 = .ok (.istore 4, 2) := by decide +kernel
theorem dX10_lineUp_3 : decode cX10_lineUp 3 = .ok (.iload_n 2, 1) := by decide +kernel
theorem dX10_lineUp_4 : decode cX10_lineUp 4 = .ok (.istore 5, 2) := by decide +kernel
theorem dX10_lineUp_6 : decode cX10_lineUp 6 = .ok (.iload 5, 2) := by decide +kernel
theorem dX10_lineUp_8 : decode cX10_lineUp 8 = .ok (.iload_n 3, 1) := by decide +kernel
theorem dX10_lineUp_9 : decode cX10_lineUp 9 = .ok (.if_icmp .gt 36, 3) := by decide +kernel
theorem dX10_lineUp_12 : decode cX10_lineUp 12 = .ok (.iload 4, 2) := by decide +kernel
theorem dX10_lineUp_14 : decode cX10_lineUp 14 = .ok (.ifCond .lt 31, 3) := by decide +kernel
theorem dX10_lineUp_17 : decode cX10_lineUp 17 = .ok (.iload 4, 2) := by decide +kernel
theorem dX10_lineUp_19 : decode cX10_lineUp 19 = .ok (.aload_n 0, 1) := by decide +kernel
theorem dX10_lineUp_20 : decode cX10_lineUp 20 = .ok (.getfield 53, 3) := by decide +kernel
theorem dX10_lineUp_23 : decode cX10_lineUp 23 = .ok (.arraylength, 1) := by decide +kernel
theorem dX10_lineUp_24 : decode cX10_lineUp 24 = .ok (.if_icmp .ge 21, 3) := by decide +kernel
theorem dX10_lineUp_27 : decode cX10_lineUp 27 = .ok (.aload_n 0, 1) := by decide +kernel
theorem dX10_lineUp_28 : decode cX10_lineUp 28 = .ok (.getfield 53, 3) := by decide +kernel
theorem dX10_lineUp_31 : decode cX10_lineUp 31 = .ok (.iload 4, 2) := by decide +kernel
theorem dX10_lineUp_33 : decode cX10_lineUp 33 = .ok (.iload 5, 2) := by decide +kernel
theorem dX10_lineUp_35 : decode cX10_lineUp 35 = .ok (.iastore, 1) := by decide +kernel
theorem dX10_lineUp_36 : decode cX10_lineUp 36 = .ok (.iinc 4 1, 3) := by decide +kernel
theorem dX10_lineUp_39 : decode cX10_lineUp 39 = .ok (.iinc 5 1, 3) := by decide +kernel
theorem dX10_lineUp_42 : decode cX10_lineUp 42 = .ok (.goto (-36), 3) := by decide +kernel
theorem dX10_lineUp_45 : decode cX10_lineUp 45 = .ok (.iload 4, 2) := by decide +kernel
theorem dX10_lineUp_47 : decode cX10_lineUp 47 = .ok (.ireturn, 1) := by decide +kernel
theorem dX10_copyLines_0 : decode cX10_copyLines 0 = .ok (.iload_n 1, 1) := by decide +kernel
theorem dX10_copyLines_1 : decode cX10_copyLines 1 = .ok (.ifCond .ge 6, 3) := by decide +kernel
theorem dX10_copyLines_4 : decode cX10_copyLines 4 = .ok (.iload_n 1, 1) := by decide +kernel
theorem dX10_copyLines_5 : decode cX10_copyLines 5 = .ok (.ineg, 1) := by decide +kernel
theorem dX10_copyLines_6 : decode cX10_copyLines 6 = .ok (.ireturn, 1) := by decide +kernel
theorem dX10_copyLines_7 : decode cX10_copyLines 7 = .ok (.aload_n 0, 1) := by decide +kernel
theorem dX10_copyLines_8 : decode cX10_copyLines 8 = .ok (.getfield 141, 3) := by decide +kernel
theorem dX10_copyLines_11 : decode cX10_copyLines 11 = .ok (.aload_n 0, 1) := by decide +kernel
theorem dX10_copyLines_12 : decode cX10_copyLines 12 = .ok (.getfield 138, 3) := by decide +kernel
theorem dX10_copyLines_15 : decode cX10_copyLines 15 = .ok (.isub, 1) := by decide +kernel
theorem dX10_copyLines_16 : decode cX10_copyLines 16 = .ok (.iconst 1, 1) := by decide +kernel
theorem dX10_copyLines_17 : decode cX10_copyLines 17 = .ok (.iadd, 1) := by decide +kernel
theorem dX10_copyLines_18 : decode cX10_copyLines 18 = .ok (.istore_n 2, 1) := by decide +kernel
theorem dX10_copyLines_19 : decode cX10_copyLines 19 = .ok (.aload_n 0, 1) := by decide +kernel
theorem dX10_copyLines_20 : decode cX10_copyLines 20 = .ok (.getfield 50, 3) := by decide +kernel
theorem dX10_copyLines_23 : decode cX10_copyLines 23 = .ok (.aload_n 0, 1) := by decide +kernel
theorem dX10_copyLines_24 : decode cX10_copyLines 24 = .ok (.getfield 15, 3) := by decide +kernel
theorem dX10_copyLines_27 : decode cX10_copyLines 27 = .ok (.invokevirtual 287, 3) := by decide +kernel
theorem dX10_copyLines_30 : decode cX10_copyLines 30 = .ok (.aload_n 0, 1) := by decide +kernel
theorem dX10_copyLines_31 : decode cX10_copyLines 31 = .ok (.getfield 15, 3) := by decide +kernel
theorem dX10_copyLines_34 : decode cX10_copyLines 34 = .ok (.iload_n 1, 1) := by decide +kernel
theorem dX10_copyLines_35 : decode cX10_copyLines 35 = .ok (.iconst 1, 1) := by decide +kernel
theorem dX10_copyLines_36 : decode cX10_copyLines 36 = .ok (.iadd, 1) := by decide +kernel
theorem dX10_copyLines_37 : decode cX10_copyLines 37 = .ok (.iload_n 2, 1) := by decide +kernel
theorem dX10_copyLines_38 : decode cX10_copyLines 38 = .ok (.invokevirtual 276, 3) := by decide +kernel
theorem dX10_copyLines_41 : decode cX10_copyLines 41 = .ok (.ifCond .ne 5, 3) := by decide +kernel
theorem dX10_copyLines_44 : decode cX10_copyLines 44 = .ok (.iconst 4, 1) := by decide +kernel
theorem dX10_copyLines_45 : decode cX10_copyLines 45 = .ok (.ireturn, 1) := by decide +kernel
theorem dX10_copyLines_46 : decode cX10_copyLines 46 = .ok (.iconst 1, 1) := by decide +kernel
theorem dX10_copyLines_47 : decode cX10_copyLines 47 = .ok (.istore_n 3, 1) := by decide +kernel
theorem dX10_copyLines_48 : decode cX10_copyLines 48 = .ok (.iload_n 3, 1) := by decide +kernel
theorem dX10_copyLines_49 : decode cX10_copyLines 49 = .ok (.iload_n 2, 1) := by decide +kernel
theorem dX10_copyLines_50 : decode cX10_copyLines 50 = .ok (.if_icmp .gt 37, 3) := by decide +kernel
theorem dX10_copyLines_53 : decode cX10_copyLines 53 = .ok (.aload_n 0, 1) := by decide +kernel
theorem dX10_copyLines_54 : decode cX10_copyLines 54 = .ok (.getfield 15, 3) := by decide +kernel
theorem dX10_copyLines_57 : decode cX10_copyLines 57 = .ok (.getfield 123, 3) := by decide +kernel
theorem dX10_copyLines_60 : decode cX10_copyLines 60 = .ok (.iload_n 1, 1) := by decide +kernel
theorem dX10_copyLines_61 : decode cX10_copyLines 61 = .ok (.iload_n 3, 1) := by decide +kernel
theorem dX10_copyLines_62 : decode cX10_copyLines 62 = .ok (.iadd, 1) := by decide +kernel
theorem dX10_copyLines_63 : decode cX10_copyLines 63 = .ok (.aload_n 0, 1) := by decide +kernel
theorem dX10_copyLines_64 : decode cX10_copyLines 64 = .ok (.getfield 50, 3) := by decide +kernel
theorem dX10_copyLines_67 : decode cX10_copyLines 67 = .ok (.getfield 123, 3) := by decide +kernel
theorem dX10_copyLines_70 : decode cX10_copyLines 70 = .ok (.aload_n 0, 1) := by decide +kernel
theorem dX10_copyLines_71 : decode cX10_copyLines 71 = .ok (.getfield 138, 3) := by decide +kernel
theorem dX10_copyLines_74 : decode cX10_copyLines 74 = .ok (.iload_n 3, 1) := by decide +kernel
theorem dX10_copyLines_75 : decode cX10_copyLines 75 = .ok (.iadd, 1) := by decide +kernel
theorem dX10_copyLines_76 : decode cX10_copyLines 76 = .ok (.iconst 1, 1) := by decide +kernel
theorem dX10_copyLines_77 : decode cX10_copyLines 77 = .ok (.isub, 1) := by decide +kernel
theorem dX10_copyLines_78 : decode cX10_copyLines 78 = .ok (.invokevirtual 280, 3) := by decide +kernel
theorem dX10_copyLines_81 : decode cX10_copyLines 81 = .ok (.iinc 3 1, 3) := by decide +kernel
theorem dX10_copyLines_84 : decode cX10_copyLines 84 = .ok (.goto (-36), 3) := by decide +kernel
theorem dX10_copyLines_87 : decode cX10_copyLines 87 = .ok (.aload_n 0, 1) := by decide +kernel
theorem dX10_copyLines_88 : decode cX10_copyLines 88 = .ok (.getfield 15, 3) := by decide +kernel
theorem dX10_copyLines_91 : decode cX10_copyLines 91 = .ok (.iload_n 1, 1) := by decide +kernel
theorem dX10_copyLines_92 : decode cX10_copyLines 92 = .ok (.iload_n 2, 1) := by decide +kernel
theorem dX10_copyLines_93 : decode cX10_copyLines 93 = .ok (.iadd, 1) := by decide +kernel
theorem dX10_copyLines_94 : decode cX10_copyLines 94 = .ok (.putfield 135, 3) := by decide +kernel
theorem dX10_copyLines_97 : decode cX10_copyLines 97 = .ok (.iconst 0, 1) := by decide +kernel
theorem dX10_copyLines_98 : decode cX10_copyLines 98 = .ok (.ireturn, 1) := by decide +kernel
theorem dX10_sort_0 : decode cX10_sort 0 = .ok (.aload_n 0, 1) := by decide +kernel
theorem dX10_sort_1 : decode cX10_sort 1 = .ok (.iconst 0, 1) := by decide +kernel
theorem dX10_sort_2 : decode cX10_sort 2 = .ok (.iconst 1, 1) := by decide +kernel
theorem dX10_sort_3 : decode cX10_sort 3 = .ok (.aload_n 0, 1) := by decide +kernel
theorem dX10_sort_4 : decode cX10_sort 4 = .ok (.getfield 15, 3) := by decide +kernel
theorem dX10_sort_7 : decode cX10_sort 7 = .ok (.getfield 123, 3) := by decide +kernel
theorem dX10_sort_10 : decode cX10_sort 10 = .ok (.getfield 126, 3) := by decide +kernel
theorem dX10_sort_13 : decode cX10_sort 13 = .ok (.invokevirtual 306, 3) := by decide +kernel
theorem dX10_sort_16 : decode cX10_sort 16 = .ok (.pop, 1) := by decide +kernel
theorem dX10_sort_17 : decode cX10_sort 17 = .ok (.aload_n 0, 1) := by decide +kernel
theorem dX10_sort_18 : decode cX10_sort 18 = .ok (.getfield 138, 3) := by decide +kernel
theorem dX10_sort_21 : decode cX10_sort 21 = .ok (.iconst 1, 1) := by decide +kernel
theorem dX10_sort_22 : decode cX10_sort 22 = .ok (.iadd, 1) := by decide +kernel
theorem dX10_sort_23 : decode cX10_sort 23 = .ok (.istore_n 3, 1) := by decide +kernel
theorem dX10_sort_24 : decode cX10_sort 24 = .ok (.iload_n 3, 1) := by decide +kernel
theorem dX10_sort_25 : decode cX10_sort 25 = .ok (.aload_n 0, 1) := by decide +kernel
theorem dX10_sort_26 : decode cX10_sort 26 = .ok (.getfield 141, 3) := by decide +kernel
theorem dX10_sort_29 : decode cX10_sort 29 = .ok (.if_icmp .gt 123, 3) := by decide +kernel
theorem dX10_sort_32 : decode cX10_sort 32 = .ok (.iload_n 3, 1) := by decide +kernel
theorem dX10_sort_33 : decode cX10_sort 33 = .ok (.aload_n 0, 1) := by decide +kernel
theorem dX10_sort_34 : decode cX10_sort 34 = .ok (.getfield 53, 3) := by decide +kernel
theorem dX10_sort_37 : decode cX10_sort 37 = .ok (.arraylength, 1) := by decide +kernel
theorem dX10_sort_38 : decode cX10_sort 38 = .ok (.if_icmp .gt 114, 3) := by decide +kernel
theorem dX10_sort_41 : decode cX10_sort 41 = .ok (.iload_n 3, 1) := by decide +kernel
theorem dX10_sort_42 : decode cX10_sort 42 = .ok (.istore 4, 2) := by decide +kernel
theorem dX10_sort_44 : decode cX10_sort 44 = .ok (.iload 4, 2) := by decide +kernel
theorem dX10_sort_46 : decode cX10_sort 46 = .ok (.aload_n 0, 1) := by decide +kernel
theorem dX10_sort_47 : decode cX10_sort 47 = .ok (.getfield 138, 3) := by decide +kernel
theorem dX10_sort_50 : decode cX10_sort 50 = .ok (.if_icmp .le 96, 3) := by decide +kernel
theorem dX10_sort_53 : decode cX10_sort 53 = .ok (.iload 4, 2) := by decide +kernel
theorem dX10_sort_55 : decode cX10_sort 55 = .ok (.iconst 1, 1) := by decide +kernel
theorem dX10_sort_56 : decode cX10_sort 56 = .ok (.if_icmp .le 90, 3) := by decide +kernel
theorem dX10_sort_59 : decode cX10_sort 59 = .ok (.aload_n 0, 1) := by decide +kernel
theorem dX10_sort_60 : decode cX10_sort 60 = .ok (.getfield 53, 3) := by decide +kernel
theorem dX10_sort_63 : decode cX10_sort 63 = .ok (.iload 4, 2) := by decide +kernel
theorem dX10_sort_65 : decode cX10_sort 65 = .ok (.iconst 1, 1) := by decide +kernel
theorem dX10_sort_66 : decode cX10_sort 66 = .ok (.isub, 1) := by decide +kernel
theorem dX10_sort_67 : decode cX10_sort 67 = .ok (.iaload, 1) := by decide +kernel
theorem dX10_sort_68 : decode cX10_sort 68 = .ok (.istore 5, 2) := by decide +kernel
theorem dX10_sort_70 : decode cX10_sort 70 = .ok (.aload_n 0, 1) := by decide +kernel
theorem dX10_sort_71 : decode cX10_sort 71 = .ok (.getfield 53, 3) := by decide +kernel
theorem dX10_sort_74 : decode cX10_sort 74 = .ok (.iload 4, 2) := by decide +kernel
theorem dX10_sort_76 : decode cX10_sort 76 = .ok (.iconst 2, 1) := by decide +kernel
theorem dX10_sort_77 : decode cX10_sort 77 = .ok (.isub, 1) := by decide +kernel
theorem dX10_sort_78 : decode cX10_sort 78 = .ok (.iaload, 1) := by decide +kernel
theorem dX10_sort_79 : decode cX10_sort 79 = .ok (.istore 6, 2) := by decide +kernel
theorem dX10_sort_81 : decode cX10_sort 81 = .ok (.aload_n 0, 1) := by decide +kernel
theorem dX10_sort_82 : decode cX10_sort 82 = .ok (.getfield 15, 3) := by decide +kernel
theorem dX10_sort_85 : decode cX10_sort 85 = .ok (.getfield 123, 3) := by decide +kernel
theorem dX10_sort_88 : decode cX10_sort 88 = .ok (.iload_n 1, 1) := by decide +kernel
theorem dX10_sort_89 : decode cX10_sort 89 = .ok (.iload 6, 2) := by decide +kernel
theorem dX10_sort_91 : decode cX10_sort 91 = .ok (.iload 5, 2) := by decide +kernel
theorem dX10_sort_93 : decode cX10_sort 93 = .ok (.invokevirtual 317, 3) := by decide +kernel
theorem dX10_sort_96 : decode cX10_sort 96 = .ok (.istore 7, 2) := by decide +kernel
theorem dX10_sort_98 : decode cX10_sort 98 = .ok (.iload_n 2, 1) := by decide +kernel
theorem dX10_sort_99 : decode cX10_sort 99 = .ok (.ifCond .eq 11, 3) := by decide +kernel
theorem dX10_sort_102 : decode cX10_sort 102 = .ok (.iload 7, 2) := by decide +kernel
theorem dX10_sort_104 : decode cX10_sort 104 = .ok (.ifCond .lt 14, 3) := by decide +kernel
theorem dX10_sort_107 : decode cX10_sort 107 = .ok (.goto 39, 3) := by decide +kernel
theorem dX10_sort_110 : decode cX10_sort 110 = .ok (.iload 7, 2) := by decide +kernel
theorem dX10_sort_112 : decode cX10_sort 112 = .ok (.ifCond .gt 6, 3) := by decide +kernel
theorem dX10_sort_115 : decode cX10_sort 115 = .ok (.goto 31, 3) := by decide +kernel
theorem dX10_sort_118 : decode cX10_sort 118 = .ok (.aload_n 0, 1) := by decide +kernel
theorem dX10_sort_119 : decode cX10_sort 119 = .ok (.getfield 53, 3) := by decide +kernel
theorem dX10_sort_122 : decode cX10_sort 122 = .ok (.iload 4, 2) := by decide +kernel
theorem dX10_sort_124 : decode cX10_sort 124 = .ok (.iconst 1, 1) := by decide +kernel
theorem dX10_sort_125 : decode cX10_sort 125 = .ok (.isub, 1) := by decide +kernel
theorem dX10_sort_126 : decode cX10_sort 126 = .ok (.iload 6, 2) := by decide +kernel
theorem dX10_sort_128 : decode cX10_sort 128 = .ok (.iastore, 1) := by decide +kernel
theorem dX10_sort_129 : decode cX10_sort 129 = .ok (.aload_n 0, 1) := by decide +kernel
theorem dX10_sort_130 : decode cX10_sort 130 = .ok (.getfield 53, 3) := by decide +kernel
theorem dX10_sort_133 : decode cX10_sort 133 = .ok (.iload 4, 2) := by decide +kernel
theorem dX10_sort_135 : decode cX10_sort 135 = .ok (.iconst 2, 1) := by decide +kernel
theorem dX10_sort_136 : decode cX10_sort 136 = .ok (.isub, 1) := by decide +kernel
theorem dX10_sort_137 : decode cX10_sort 137 = .ok (.iload 5, 2) := by decide +kernel
theorem dX10_sort_139 : decode cX10_sort 139 = .ok (.iastore, 1) := by decide +kernel
theorem dX10_sort_140 : decode cX10_sort 140 = .ok (.iinc 4 (-1), 3) := by decide +kernel
theorem dX10_sort_143 : decode cX10_sort 143 = .ok (.goto (-99), 3) := by decide +kernel
theorem dX10_sort_146 : decode cX10_sort 146 = .ok (.iinc 3 1, 3) := by decide +kernel
theorem dX10_sort_149 : decode cX10_sort 149 = .ok (.goto (-125), 3) := by decide +kernel
theorem dX10_sort_152 : decode cX10_sort 152 = .ok (.aload_n 0, 1) := by decide +kernel
theorem dX10_sort_153 : decode cX10_sort 153 = .ok (.getfield 15, 3) := by decide +kernel
theorem dX10_sort_156 : decode cX10_sort 156 = .ok (.aload_n 0, 1) := by decide +kernel
theorem dX10_sort_157 : decode cX10_sort 157 = .ok (.getfield 53, 3) := by decide +kernel
theorem dX10_sort_160 : decode cX10_sort 160 = .ok (.aload_n 0, 1) := by decide +kernel
theorem dX10_sort_161 : decode cX10_sort 161 = .ok (.getfield 50, 3) := by decide +kernel
theorem dX10_sort_164 : decode cX10_sort 164 = .ok (.invokevirtual 313, 3) := by decide +kernel
theorem dX10_sort_167 : decode cX10_sort 167 = .ok (.aload_n 0, 1) := by decide +kernel
theorem dX10_sort_168 : decode cX10_sort 168 = .ok (.getfield 15, 3) := by decide +kernel
theorem dX10_sort_171 : decode cX10_sort 171 = .ok (.aload_n 0, 1) := by decide +kernel
theorem dX10_sort_172 : decode cX10_sort 172 = .ok (.getfield 141, 3) := by decide +kernel
theorem dX10_sort_175 : decode cX10_sort 175 = .ok (.putfield 135, 3) := by decide +kernel
theorem dX10_sort_178 : decode cX10_sort 178 = .ok (.iconst 0, 1) := by decide +kernel
theorem dX10_sort_179 : decode cX10_sort 179 = .ok (.ireturn, 1) := by decide +kernel
theorem dX10_tell_0 : decode cX10_tell 0 = .ok (.iconst 0, 1) := by decide +kernel
theorem dX10_tell_1 : decode cX10_tell 1 = .ok (.istore_n 2, 1) := by decide +kernel
theorem dX10_tell_2 : decode cX10_tell 2 = .ok (.aload_n 1, 1) := by decide +kernel
theorem dX10_tell_3 : decode cX10_tell 3 = .ok (.getfield 184, 3) := by decide +kernel
theorem dX10_tell_6 : decode cX10_tell 6 = .ok (.lookupswitch 226 #[(61, 123), (72, 160), (104, 135), (107, 186), (110, 93), (112, 66), (119, 210)], 66) := by decide +kernel
theorem dX10_tell_72 : decode cX10_tell 72 = .ok (.aload_n 0, 1) := by decide +kernel
theorem dX10_tell_73 : decode cX10_tell 73 = .ok (.getfield 19, 3) := by decide +kernel
theorem dX10_tell_76 : decode cX10_tell 76 = .ok (.aload_n 0, 1) := by decide +kernel
theorem dX10_tell_77 : decode cX10_tell 77 = .ok (.getfield 15, 3) := by decide +kernel
theorem dX10_tell_80 : decode cX10_tell 80 = .ok (.getfield 123, 3) := by decide +kernel
theorem dX10_tell_83 : decode cX10_tell 83 = .ok (.aload_n 0, 1) := by decide +kernel
theorem dX10_tell_84 : decode cX10_tell 84 = .ok (.getfield 138, 3) := by decide +kernel
theorem dX10_tell_87 : decode cX10_tell 87 = .ok (.aload_n 0, 1) := by decide +kernel
theorem dX10_tell_88 : decode cX10_tell 88 = .ok (.getfield 141, 3) := by decide +kernel
theorem dX10_tell_91 : decode cX10_tell 91 = .ok (.iconst (-1), 1) := by decide +kernel
theorem dX10_tell_92 : decode cX10_tell 92 = .ok (.invokevirtual 320, 3) := by decide +kernel
theorem dX10_tell_95 : decode cX10_tell 95 = .ok (.istore_n 2, 1) := by decide +kernel
theorem dX10_tell_96 : decode cX10_tell 96 = .ok (.goto 138, 3) := by decide +kernel
theorem dX10_tell_99 : decode cX10_tell 99 = .ok (.aload_n 0, 1) := by decide +kernel
theorem dX10_tell_100 : decode cX10_tell 100 = .ok (.getfield 19, 3) := by decide +kernel
theorem dX10_tell_103 : decode cX10_tell 103 = .ok (.aload_n 0, 1) := by decide +kernel
theorem dX10_tell_104 : decode cX10_tell 104 = .ok (.getfield 15, 3) := by decide +kernel
theorem dX10_tell_107 : decode cX10_tell 107 = .ok (.getfield 123, 3) := by decide +kernel
theorem dX10_tell_110 : decode cX10_tell 110 = .ok (.aload_n 0, 1) := by decide +kernel
theorem dX10_tell_111 : decode cX10_tell 111 = .ok (.getfield 138, 3) := by decide +kernel
theorem dX10_tell_114 : decode cX10_tell 114 = .ok (.aload_n 0, 1) := by decide +kernel
theorem dX10_tell_115 : decode cX10_tell 115 = .ok (.getfield 141, 3) := by decide +kernel
theorem dX10_tell_118 : decode cX10_tell 118 = .ok (.aload_n 0, 1) := by decide +kernel
theorem dX10_tell_119 : decode cX10_tell 119 = .ok (.getfield 138, 3) := by decide +kernel
theorem dX10_tell_122 : decode cX10_tell 122 = .ok (.invokevirtual 320, 3) := by decide +kernel
theorem dX10_tell_125 : decode cX10_tell 125 = .ok (.istore_n 2, 1) := by decide +kernel
theorem dX10_tell_126 : decode cX10_tell 126 = .ok (.goto 108, 3) := by decide +kernel
theorem dX10_tell_129 : decode cX10_tell 129 = .ok (.aload_n 0, 1) := by decide +kernel
theorem dX10_tell_130 : decode cX10_tell 130 = .ok (.getfield 19, 3) := by decide +kernel
theorem dX10_tell_133 : decode cX10_tell 133 = .ok (.aload_n 0, 1) := by decide +kernel
theorem dX10_tell_134 : decode cX10_tell 134 = .ok (.getfield 141, 3) := by decide +kernel
theorem dX10_tell_137 : decode cX10_tell 137 = .ok (.invokevirtual 324, 3) := by decide +kernel
theorem dX10_tell_140 : decode cX10_tell 140 = .ok (.ireturn, 1) := by decide +kernel
theorem dX10_tell_141 : decode cX10_tell 141 = .ok (.aload_n 0, 1) := by decide +kernel
theorem dX10_tell_142 : decode cX10_tell 142 = .ok (.getfield 19, 3) := by decide +kernel
theorem dX10_tell_145 : decode cX10_tell 145 = .ok (.aload_n 0, 1) := by decide +kernel
theorem dX10_tell_146 : decode cX10_tell 146 = .ok (.getfield 15, 3) := by decide +kernel
theorem dX10_tell_149 : decode cX10_tell 149 = .ok (.getfield 123, 3) := by decide +kernel
theorem dX10_tell_152 : decode cX10_tell 152 = .ok (.aload_n 0, 1) := by decide +kernel
theorem dX10_tell_153 : decode cX10_tell 153 = .ok (.getfield 138, 3) := by decide +kernel
theorem dX10_tell_156 : decode cX10_tell 156 = .ok (.aload_n 0, 1) := by decide +kernel
theorem dX10_tell_157 : decode cX10_tell 157 = .ok (.getfield 141, 3) := by decide +kernel
theorem dX10_tell_160 : decode cX10_tell 160 = .ok (.invokevirtual 289, 3) := by decide +kernel
theorem dX10_tell_163 : decode cX10_tell 163 = .ok (.goto 71, 3) := by decide +kernel
theorem dX10_tell_166 : decode cX10_tell 166 = .ok (.aload_n 0, 1) := by decide +kernel
theorem dX10_tell_167 : decode cX10_tell 167 = .ok (.getfield 19, 3) := by decide +kernel
theorem dX10_tell_170 : decode cX10_tell 170 = .ok (.aload_n 0, 1) := by decide +kernel
theorem dX10_tell_171 : decode cX10_tell 171 = .ok (.getfield 15, 3) := by decide +kernel
theorem dX10_tell_174 : decode cX10_tell 174 = .ok (.getfield 123, 3) := by decide +kernel
theorem dX10_tell_177 : decode cX10_tell 177 = .ok (.aload_n 0, 1) := by decide +kernel
theorem dX10_tell_178 : decode cX10_tell 178 = .ok (.getfield 138, 3) := by decide +kernel
theorem dX10_tell_181 : decode cX10_tell 181 = .ok (.aload_n 0, 1) := by decide +kernel
theorem dX10_tell_182 : decode cX10_tell 182 = .ok (.getfield 141, 3) := by decide +kernel
theorem dX10_tell_185 : decode cX10_tell 185 = .ok (.invokevirtual 327, 3) := by decide +kernel
theorem dX10_tell_188 : decode cX10_tell 188 = .ok (.istore_n 2, 1) := by decide +kernel
theorem dX10_tell_189 : decode cX10_tell 189 = .ok (.goto 45, 3) := by decide +kernel
theorem dX10_tell_192 : decode cX10_tell 192 = .ok (.aload_n 0, 1) := by decide +kernel
theorem dX10_tell_193 : decode cX10_tell 193 = .ok (.getfield 15, 3) := by decide +kernel
theorem dX10_tell_196 : decode cX10_tell 196 = .ok (.aload_n 1, 1) := by decide +kernel
theorem dX10_tell_197 : decode cX10_tell 197 = .ok (.getfield 188, 3) := by decide +kernel
theorem dX10_tell_200 : decode cX10_tell 200 = .ok (.aload_n 0, 1) := by decide +kernel
theorem dX10_tell_201 : decode cX10_tell 201 = .ok (.getfield 15, 3) := by decide +kernel
theorem dX10_tell_204 : decode cX10_tell 204 = .ok (.aload_n 0, 1) := by decide +kernel
theorem dX10_tell_205 : decode cX10_tell 205 = .ok (.getfield 141, 3) := by decide +kernel
theorem dX10_tell_208 : decode cX10_tell 208 = .ok (.invokevirtual 217, 3) := by decide +kernel
theorem dX10_tell_211 : decode cX10_tell 211 = .ok (.invokevirtual 331, 3) := by decide +kernel
theorem dX10_tell_214 : decode cX10_tell 214 = .ok (.iconst 0, 1) := by decide +kernel
theorem dX10_tell_215 : decode cX10_tell 215 = .ok (.ireturn, 1) := by decide +kernel
theorem dX10_tell_216 : decode cX10_tell 216 = .ok (.aload_n 0, 1) := by decide +kernel
theorem dX10_tell_217 : decode cX10_tell 217 = .ok (.aload_n 0, 1) := by decide +kernel
theorem dX10_tell_218 : decode cX10_tell 218 = .ok (.getfield 19, 3) := by decide +kernel
theorem dX10_tell_221 : decode cX10_tell 221 = .ok (.aload_n 1, 1) := by decide +kernel
theorem dX10_tell_222 : decode cX10_tell 222 = .ok (.getfield 188, 3) := by decide +kernel
theorem dX10_tell_225 : decode cX10_tell 225 = .ok (.invokevirtual 235, 3) := by decide +kernel
theorem dX10_tell_228 : decode cX10_tell 228 = .ok (.invokevirtual 334, 3) := by decide +kernel
theorem dX10_tell_231 : decode cX10_tell 231 = .ok (.ireturn, 1) := by decide +kernel
theorem dX10_tell_232 : decode cX10_tell 232 = .ok (.iconst 0, 1) := by decide +kernel
theorem dX10_tell_233 : decode cX10_tell 233 = .ok (.ireturn, 1) := by decide +kernel
theorem dX10_tell_234 : decode cX10_tell 234 = .ok (.aload_n 0, 1) := by decide +kernel
theorem dX10_tell_235 : decode cX10_tell 235 = .ok (.getfield 15, 3) := by decide +kernel
theorem dX10_tell_238 : decode cX10_tell 238 = .ok (.aload_n 0, 1) := by decide +kernel
theorem dX10_tell_239 : decode cX10_tell 239 = .ok (.getfield 141, 3) := by decide +kernel
theorem dX10_tell_242 : decode cX10_tell 242 = .ok (.putfield 135, 3) := by decide +kernel
theorem dX10_tell_245 : decode cX10_tell 245 = .ok (.iload_n 2, 1) := by decide +kernel
theorem dX10_tell_246 : decode cX10_tell 246 = .ok (.ireturn, 1) := by decide +kernel
theorem dX10_writeFile_0 : decode cX10_writeFile 0 = .ok (.aload_n 1, 1) := by decide +kernel
theorem dX10_writeFile_1 : decode cX10_writeFile 1 = .ok (.ifnonnull 5, 3) := by decide +kernel
theorem dX10_writeFile_4 : decode cX10_writeFile 4 = .ok (.iconst 0, 1) := by decide +kernel
theorem dX10_writeFile_5 : decode cX10_writeFile 5 = .ok (.ireturn, 1) := by decide +kernel
theorem dX10_writeFile_6 : decode cX10_writeFile 6 = .ok (.aload_n 1, 1) := by decide +kernel
theorem dX10_writeFile_7 : decode cX10_writeFile 7 = .ok (.iconst 0, 1) := by decide +kernel
theorem dX10_writeFile_8 : decode cX10_writeFile 8 = .ok (.invokevirtual 337, 3) := by decide +kernel
theorem dX10_writeFile_11 : decode cX10_writeFile 11 = .ok (.aload_n 0, 1) := by decide +kernel
theorem dX10_writeFile_12 : decode cX10_writeFile 12 = .ok (.getfield 138, 3) := by decide +kernel
theorem dX10_writeFile_15 : decode cX10_writeFile 15 = .ok (.istore_n 2, 1) := by decide +kernel
theorem dX10_writeFile_16 : decode cX10_writeFile 16 = .ok (.iload_n 2, 1) := by decide +kernel
theorem dX10_writeFile_17 : decode cX10_writeFile 17 = .ok (.aload_n 0, 1) := by decide +kernel
theorem dX10_writeFile_18 : decode cX10_writeFile 18 = .ok (.getfield 141, 3) := by decide +kernel
theorem dX10_writeFile_21 : decode cX10_writeFile 21 = .ok (.if_icmp .gt 22, 3) := by decide +kernel
theorem dX10_writeFile_24 : decode cX10_writeFile 24 = .ok (.aload_n 1, 1) := by decide +kernel
theorem dX10_writeFile_25 : decode cX10_writeFile 25 = .ok (.aload_n 0, 1) := by decide +kernel
theorem dX10_writeFile_26 : decode cX10_writeFile 26 = .ok (.getfield 15, 3) := by decide +kernel
theorem dX10_writeFile_29 : decode cX10_writeFile 29 = .ok (.getfield 123, 3) := by decide +kernel
theorem dX10_writeFile_32 : decode cX10_writeFile 32 = .ok (.iload_n 2, 1) := by decide +kernel
theorem dX10_writeFile_33 : decode cX10_writeFile 33 = .ok (.invokevirtual 340, 3) := by decide +kernel
theorem dX10_writeFile_36 : decode cX10_writeFile 36 = .ok (.pop, 1) := by decide +kernel
theorem dX10_writeFile_37 : decode cX10_writeFile 37 = .ok (.iinc 2 1, 3) := by decide +kernel
theorem dX10_writeFile_40 : decode cX10_writeFile 40 = .ok (.goto (-24), 3) := by decide +kernel
theorem dX10_writeFile_43 : decode cX10_writeFile 43 = .ok (.iconst 0, 1) := by decide +kernel
theorem dX10_writeFile_44 : decode cX10_writeFile 44 = .ok (.ireturn, 1) := by decide +kernel
theorem dX11_init_0 : decode cX11_init 0 = .ok (.aload_n 0, 1) := by decide +kernel
theorem dX11_init_1 : decode cX11_init 1 = .ok (.invokespecial 1, 3) := by decide +kernel
theorem dX11_init_4 : decode cX11_init 4 = .ok (.aload_n 0, 1) := by decide +kernel
theorem dX11_init_5 : decode cX11_init 5 = .ok (.bipush 60, 2) := by decide +kernel
theorem dX11_init_7 : decode cX11_init 7 = .ok (.newarray .byte, 2) := by decide +kernel
theorem dX11_init_9 : decode cX11_init 9 = .ok (.putfield 9, 3) := by decide +kernel
theorem dX11_init_12 : decode cX11_init 12 = .ok (.aload_n 0, 1) := by decide +kernel
theorem dX11_init_13 : decode cX11_init 13 = .ok (.iconst 4, 1) := by decide +kernel
theorem dX11_init_14 : decode cX11_init 14 = .ok (.bipush 60, 2) := by decide +kernel
theorem dX11_init_16 : decode cX11_init 16 = .ok (.multianewarray 13 2, 4) := by decide +kernel
theorem dX11_init_20 : decode cX11_init 20 = .ok (.putfield 15, 3) := by decide +kernel
theorem dX11_init_23 : decode cX11_init 23 = .ok (.aload_n 0, 1) := by decide +kernel
theorem dX11_init_24 : decode cX11_init 24 = .ok (.iconst 4, 1) := by decide +kernel
theorem dX11_init_25 : decode cX11_init 25 = .ok (.newarray .int, 2) := by decide +kernel
theorem dX11_init_27 : decode cX11_init 27 = .ok (.putfield 18, 3) := by decide +kernel
theorem dX11_init_30 : decode cX11_init 30 = .ok (.iconst 0, 1) := by decide +kernel
theorem dX11_init_31 : decode cX11_init 31 = .ok (.istore_n 1, 1) := by decide +kernel
theorem dX11_init_32 : decode cX11_init 32 = .ok (.iload_n 1, 1) := by decide +kernel
theorem dX11_init_33 : decode cX11_init 33 = .ok (.iconst 4, 1) := by decide +kernel
theorem dX11_init_34 : decode cX11_init 34 = .ok (.if_icmp .ge 16, 3) := by decide +kernel
theorem dX11_init_37 : decode cX11_init 37 = .ok (.aload_n 0, 1) := by decide +kernel
theorem dX11_init_38 : decode cX11_init 38 = .ok (.getfield 18, 3) := by decide +kernel
theorem dX11_init_41 : decode cX11_init 41 = .ok (.iload_n 1, 1) := by decide +kernel
theorem dX11_init_42 : decode cX11_init 42 = .ok (.iconst (-1), 1) := by decide +kernel
theorem dX11_init_43 : decode cX11_init 43 = .ok (.iastore, 1) := by decide +kernel
theorem dX11_init_44 : decode cX11_init 44 = .ok (.iinc 1 1, 3) := by decide +kernel
theorem dX11_init_47 : decode cX11_init 47 = .ok (.goto (-15), 3) := by decide +kernel
theorem dX11_init_50 : decode cX11_init 50 = .ok (.aload_n 0, 1) := by decide +kernel
theorem dX11_init_51 : decode cX11_init 51 = .ok (.sipush 1681, 3) := by decide +kernel
theorem dX11_init_54 : decode cX11_init 54 = .ok (.newarray .int, 2) := by decide +kernel
theorem dX11_init_56 : decode cX11_init 56 = .ok (.putfield 22, 3) := by decide +kernel
theorem dX11_init_59 : decode cX11_init 59 = .ok (.aload_n 0, 1) := by decide +kernel
theorem dX11_init_60 : decode cX11_init 60 = .ok (.bipush 40, 2) := by decide +kernel
theorem dX11_init_62 : decode cX11_init 62 = .ok (.newarray .int, 2) := by decide +kernel
theorem dX11_init_64 : decode cX11_init 64 = .ok (.putfield 25, 3) := by decide +kernel
theorem dX11_init_67 : decode cX11_init 67 = .ok (.aload_n 0, 1) := by decide +kernel
theorem dX11_init_68 : decode cX11_init 68 = .ok (.new 28, 3) := by decide +kernel
theorem dX11_init_71 : decode cX11_init 71 = .ok (.dup, 1) := by decide +kernel
theorem dX11_init_72 : decode cX11_init 72 = .ok (.invokespecial 30, 3) := by decide +kernel
theorem dX11_init_75 : decode cX11_init 75 = .ok (.putfield 31, 3) := by decide +kernel
theorem dX11_init_78 : decode cX11_init 78 = .ok (.aload_n 0, 1) := by decide +kernel
theorem dX11_init_79 : decode cX11_init 79 = .ok (.new 35, 3) := by decide +kernel
theorem dX11_init_82 : decode cX11_init 82 = .ok (.dup, 1) := by decide +kernel
theorem dX11_init_83 : decode cX11_init 83 = .ok (.invokespecial 37, 3) := by decide +kernel
theorem dX11_init_86 : decode cX11_init 86 = .ok (.putfield 38, 3) := by decide +kernel
theorem dX11_init_89 : decode cX11_init 89 = .ok (.aload_n 0, 1) := by decide +kernel
theorem dX11_init_90 : decode cX11_init 90 = .ok (.new 42, 3) := by decide +kernel
theorem dX11_init_93 : decode cX11_init 93 = .ok (.dup, 1) := by decide +kernel
theorem dX11_init_94 : decode cX11_init 94 = .ok (.invokespecial 44, 3) := by decide +kernel
theorem dX11_init_97 : decode cX11_init 97 = .ok (.putfield 45, 3) := by decide +kernel
theorem dX11_init_100 : decode cX11_init 100 = .ok (.aload_n 0, 1) := by decide +kernel
theorem dX11_init_101 : decode cX11_init 101 = .ok (.new 49, 3) := by decide +kernel
theorem dX11_init_104 : decode cX11_init 104 = .ok (.dup, 1) := by decide +kernel
theorem dX11_init_105 : decode cX11_init 105 = .ok (.invokespecial 51, 3) := by decide +kernel
theorem dX11_init_108 : decode cX11_init 108 = .ok (.putfield 52, 3) := by decide +kernel
theorem dX11_init_111 : decode cX11_init 111 = .ok (.aload_n 0, 1) := by decide +kernel
theorem dX11_init_112 : decode cX11_init 112 = .ok (.new 56, 3) := by decide +kernel
theorem dX11_init_115 : decode cX11_init 115 = .ok (.dup, 1) := by decide +kernel
theorem dX11_init_116 : decode cX11_init 116 = .ok (.aload_n 0, 1) := by decide +kernel
theorem dX11_init_117 : decode cX11_init 117 = .ok (.getfield 31, 3) := by decide +kernel
theorem dX11_init_120 : decode cX11_init 120 = .ok (.invokespecial 58, 3) := by decide +kernel
theorem dX11_init_123 : decode cX11_init 123 = .ok (.putfield 61, 3) := by decide +kernel
theorem dX11_init_126 : decode cX11_init 126 = .ok (.new 65, 3) := by decide +kernel
theorem dX11_init_129 : decode cX11_init 129 = .ok (.dup, 1) := by decide +kernel
theorem dX11_init_130 : decode cX11_init 130 = .ok (.aload_n 0, 1) := by decide +kernel
theorem dX11_init_131 : decode cX11_init 131 = .ok (.getfield 31, 3) := by decide +kernel
theorem dX11_init_134 : decode cX11_init 134 = .ok (.aload_n 0, 1) := by decide +kernel
theorem dX11_init_135 : decode cX11_init 135 = .ok (.getfield 61, 3) := by decide +kernel
theorem dX11_init_138 : decode cX11_init 138 = .ok (.invokespecial 67, 3) := by decide +kernel
theorem dX11_init_141 : decode cX11_init 141 = .ok (.astore_n 1, 1) := by decide +kernel
theorem dX11_init_142 : decode cX11_init 142 = .ok (.new 42, 3) := by decide +kernel
theorem dX11_init_145 : decode cX11_init 145 = .ok (.dup, 1) := by decide +kernel
theorem dX11_init_146 : decode cX11_init 146 = .ok (.invokespecial 44, 3) := by decide +kernel
theorem dX11_init_149 : decode cX11_init 149 = .ok (.astore_n 2, 1) := by decide +kernel
theorem dX11_init_150 : decode cX11_init 150 = .ok (.aload_n 0, 1) := by decide +kernel
theorem dX11_init_151 : decode cX11_init 151 = .ok (.new 70, 3) := by decide +kernel
theorem dX11_init_154 : decode cX11_init 154 = .ok (.dup, 1) := by decide +kernel
theorem dX11_init_155 : decode cX11_init 155 = .ok (.aload_n 0, 1) := by decide +kernel
theorem dX11_init_156 : decode cX11_init 156 = .ok (.getfield 31, 3) := by decide +kernel
theorem dX11_init_159 : decode cX11_init 159 = .ok (.aload_n 0, 1) := by decide +kernel
theorem dX11_init_160 : decode cX11_init 160 = .ok (.getfield 38, 3) := by decide +kernel
theorem dX11_init_163 : decode cX11_init 163 = .ok (.aload_n 0, 1) := by decide +kernel
theorem dX11_init_164 : decode cX11_init 164 = .ok (.getfield 45, 3) := by decide +kernel
theorem dX11_init_167 : decode cX11_init 167 = .ok (.aload_n 2, 1) := by decide +kernel
theorem dX11_init_168 : decode cX11_init 168 = .ok (.aload_n 0, 1) := by decide +kernel
theorem dX11_init_169 : decode cX11_init 169 = .ok (.getfield 61, 3) := by decide +kernel
theorem dX11_init_172 : decode cX11_init 172 = .ok (.aload_n 1, 1) := by decide +kernel
theorem dX11_init_173 : decode cX11_init 173 = .ok (.aload_n 0, 1) := by decide +kernel
theorem dX11_init_174 : decode cX11_init 174 = .ok (.getfield 52, 3) := by decide +kernel
theorem dX11_init_177 : decode cX11_init 177 = .ok (.invokespecial 72, 3) := by decide +kernel
theorem dX11_init_180 : decode cX11_init 180 = .ok (.putfield 75, 3) := by decide +kernel
theorem dX11_init_183 : decode cX11_init 183 = .ok (.aload_n 0, 1) := by decide +kernel
theorem dX11_init_184 : decode cX11_init 184 = .ok (.new 79, 3) := by decide +kernel
theorem dX11_init_187 : decode cX11_init 187 = .ok (.dup, 1) := by decide +kernel
theorem dX11_init_188 : decode cX11_init 188 = .ok (.aload_n 0, 1) := by decide +kernel
theorem dX11_init_189 : decode cX11_init 189 = .ok (.getfield 31, 3) := by decide +kernel
theorem dX11_init_192 : decode cX11_init 192 = .ok (.aload_n 0, 1) := by decide +kernel
theorem dX11_init_193 : decode cX11_init 193 = .ok (.getfield 38, 3) := by decide +kernel
theorem dX11_init_196 : decode cX11_init 196 = .ok (.aload_n 0, 1) := by decide +kernel
theorem dX11_init_197 : decode cX11_init 197 = .ok (.getfield 45, 3) := by decide +kernel
theorem dX11_init_200 : decode cX11_init 200 = .ok (.aload_n 2, 1) := by decide +kernel
theorem dX11_init_201 : decode cX11_init 201 = .ok (.aload_n 0, 1) := by decide +kernel
theorem dX11_init_202 : decode cX11_init 202 = .ok (.getfield 61, 3) := by decide +kernel
theorem dX11_init_205 : decode cX11_init 205 = .ok (.aload_n 1, 1) := by decide +kernel
theorem dX11_init_206 : decode cX11_init 206 = .ok (.invokespecial 81, 3) := by decide +kernel
theorem dX11_init_209 : decode cX11_init 209 = .ok (.putfield 84, 3) := by decide +kernel
theorem dX11_init_212 : decode cX11_init 212 = .ok (.return_, 1) := by decide +kernel
theorem dX11_type_0 : decode cX11_type 0 = .ok (.iload_n 1, 1) := by decide +kernel
theorem dX11_type_1 : decode cX11_type 1 = .ok (.bipush 32, 2) := by decide +kernel
theorem dX11_type_3 : decode cX11_type 3 = .ok (.if_icmp .lt 9, 3) := by decide +kernel
theorem dX11_type_6 : decode cX11_type 6 = .ok (.iload_n 1, 1) := by decide +kernel
theorem dX11_type_7 : decode cX11_type 7 = .ok (.bipush 126, 2) := by decide +kernel
theorem dX11_type_9 : decode cX11_type 9 = .ok (.if_icmp .le 13, 3) := by decide +kernel
theorem dX11_type_12 : decode cX11_type 12 = .ok (.new 88, 3) := by decide +kernel
theorem dX11_type_15 : decode cX11_type 15 = .ok (.dup, 1) := by decide +kernel
theorem dX11_type_16 : decode cX11_type 16 = .ok (.ldc 90, 2) := by decide +kernel
theorem dX11_type_18 : decode cX11_type 18 = .ok (.invokespecial 92, 3) := by decide +kernel
theorem dX11_type_21 : decode cX11_type 21 = .ok (.athrow, 1) := by decide +kernel
theorem dX11_type_22 : decode cX11_type 22 = .ok (.aload_n 0, 1) := by decide +kernel
theorem dX11_type_23 : decode cX11_type 23 = .ok (.getfield 95, 3) := by decide +kernel
theorem dX11_type_26 : decode cX11_type 26 = .ok (.ifCond .lt 15, 3) := by decide +kernel
theorem dX11_type_29 : decode cX11_type 29 = .ok (.aload_n 0, 1) := by decide +kernel
theorem dX11_type_30 : decode cX11_type 30 = .ok (.getfield 95, 3) := by decide +kernel
theorem dX11_type_33 : decode cX11_type 33 = .ok (.aload_n 0, 1) := by decide +kernel
theorem dX11_type_34 : decode cX11_type 34 = .ok (.getfield 9, 3) := by decide +kernel
theorem dX11_type_37 : decode cX11_type 37 = .ok (.arraylength, 1) := by decide +kernel
theorem dX11_type_38 : decode cX11_type 38 = .ok (.if_icmp .lt 13, 3) := by decide +kernel
theorem dX11_type_41 : decode cX11_type 41 = .ok (.new 99, 3) := by decide +kernel
theorem dX11_type_44 : decode cX11_type 44 = .ok (.dup, 1) := by decide +kernel
theorem dX11_type_45 : decode cX11_type 45 = .ok (.ldc 101, 2) := by decide +kernel
theorem dX11_type_47 : decode cX11_type 47 = .ok (.invokespecial 103, 3) := by decide +kernel
theorem dX11_type_50 : decode cX11_type 50 = .ok (.athrow, 1) := by decide +kernel
theorem dX11_type_51 : decode cX11_type 51 = .ok (.aload_n 0, 1) := by decide +kernel
theorem dX11_type_52 : decode cX11_type 52 = .ok (.getfield 9, 3) := by decide +kernel
theorem dX11_type_55 : decode cX11_type 55 = .ok (.aload_n 0, 1) := by decide +kernel
theorem dX11_type_56 : decode cX11_type 56 = .ok (.getfield 95, 3) := by decide +kernel
theorem dX11_type_59 : decode cX11_type 59 = .ok (.iload_n 1, 1) := by decide +kernel
theorem dX11_type_60 : decode cX11_type 60 = .ok (.i2b, 1) := by decide +kernel
theorem dX11_type_61 : decode cX11_type 61 = .ok (.bastore, 1) := by decide +kernel
theorem dX11_type_62 : decode cX11_type 62 = .ok (.aload_n 0, 1) := by decide +kernel
theorem dX11_type_63 : decode cX11_type 63 = .ok (.dup, 1) := by decide +kernel
theorem dX11_type_64 : decode cX11_type 64 = .ok (.getfield 95, 3) := by decide +kernel
theorem dX11_type_67 : decode cX11_type 67 = .ok (.iconst 1, 1) := by decide +kernel
theorem dX11_type_68 : decode cX11_type 68 = .ok (.iadd, 1) := by decide +kernel
theorem dX11_type_69 : decode cX11_type 69 = .ok (.putfield 95, 3) := by decide +kernel
theorem dX11_type_72 : decode cX11_type 72 = .ok (.aload_n 0, 1) := by decide +kernel
theorem dX11_type_73 : decode cX11_type 73 = .ok (.getfield 95, 3) := by decide +kernel
theorem dX11_type_76 : decode cX11_type 76 = .ok (.ireturn, 1) := by decide +kernel
theorem dX11_wipe_0 : decode cX11_wipe 0 = .ok (.aload_n 0, 1) := by decide +kernel
theorem dX11_wipe_1 : decode cX11_wipe 1 = .ok (.getfield 95, 3) := by decide +kernel
theorem dX11_wipe_4 : decode cX11_wipe 4 = .ok (.istore_n 1, 1) := by decide +kernel
theorem dX11_wipe_5 : decode cX11_wipe 5 = .ok (.aload_n 0, 1) := by decide +kernel
theorem dX11_wipe_6 : decode cX11_wipe 6 = .ok (.iconst 0, 1) := by decide +kernel
theorem dX11_wipe_7 : decode cX11_wipe 7 = .ok (.putfield 95, 3) := by decide +kernel
theorem dX11_wipe_10 : decode cX11_wipe 10 = .ok (.iload_n 1, 1) := by decide +kernel
theorem dX11_wipe_11 : decode cX11_wipe 11 = .ok (.ireturn, 1) := by decide +kernel
theorem dX11_fault_0 : decode cX11_fault 0 = .ok (.aload_n 0, 1) := by decide +kernel
theorem dX11_fault_1 : decode cX11_fault 1 = .ok (.getfield 31, 3) := by decide +kernel
theorem dX11_fault_4 : decode cX11_fault 4 = .ok (.aload_n 0, 1) := by decide +kernel
theorem dX11_fault_5 : decode cX11_fault 5 = .ok (.getfield 9, 3) := by decide +kernel
theorem dX11_fault_8 : decode cX11_fault 8 = .ok (.aload_n 0, 1) := by decide +kernel
theorem dX11_fault_9 : decode cX11_fault 9 = .ok (.getfield 95, 3) := by decide +kernel
theorem dX11_fault_12 : decode cX11_fault 12 = .ok (.invokevirtual 104, 3) := by decide +kernel
theorem dX11_fault_15 : decode cX11_fault 15 = .ok (.ireturn, 1) := by decide +kernel
theorem dX11_patternFault_0 : decode cX11_patternFault 0 = .ok (.aload_n 0, 1) := by decide +kernel
theorem dX11_patternFault_1 : decode cX11_patternFault 1 = .ok (.getfield 31, 3) := by decide +kernel
theorem dX11_patternFault_4 : decode cX11_patternFault 4 = .ok (.aload_n 0, 1) := by decide +kernel
theorem dX11_patternFault_5 : decode cX11_patternFault 5 = .ok (.getfield 9, 3) := by decide +kernel
theorem dX11_patternFault_8 : decode cX11_patternFault 8 = .ok (.aload_n 0, 1) := by decide +kernel
theorem dX11_patternFault_9 : decode cX11_patternFault 9 = .ok (.getfield 95, 3) := by decide +kernel
theorem dX11_patternFault_12 : decode cX11_patternFault 12 = .ok (.invokevirtual 108, 3) := by decide +kernel
