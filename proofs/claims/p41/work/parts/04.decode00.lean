theorem dX0_init_0 : decode cX0_init 0 = .ok (.aload_n 0, 1) := by decide +kernel
theorem dX0_init_1 : decode cX0_init 1 = .ok (.invokespecial 1, 3) := by decide +kernel
theorem dX0_init_4 : decode cX0_init 4 = .ok (.return_, 1) := by decide +kernel
theorem dX0_clear_0 : decode cX0_clear 0 = .ok (.aload_n 0, 1) := by decide +kernel
theorem dX0_clear_1 : decode cX0_clear 1 = .ok (.bipush 46, 2) := by decide +kernel
theorem dX0_clear_3 : decode cX0_clear 3 = .ok (.putfield 7, 3) := by decide +kernel
theorem dX0_clear_6 : decode cX0_clear 6 = .ok (.aload_n 0, 1) := by decide +kernel
theorem dX0_clear_7 : decode cX0_clear 7 = .ok (.iconst 0, 1) := by decide +kernel
theorem dX0_clear_8 : decode cX0_clear 8 = .ok (.putfield 13, 3) := by decide +kernel
theorem dX0_clear_11 : decode cX0_clear 11 = .ok (.aload_n 0, 1) := by decide +kernel
theorem dX0_clear_12 : decode cX0_clear 12 = .ok (.iconst 0, 1) := by decide +kernel
theorem dX0_clear_13 : decode cX0_clear 13 = .ok (.putfield 16, 3) := by decide +kernel
theorem dX0_clear_16 : decode cX0_clear 16 = .ok (.aload_n 0, 1) := by decide +kernel
theorem dX0_clear_17 : decode cX0_clear 17 = .ok (.iconst 0, 1) := by decide +kernel
theorem dX0_clear_18 : decode cX0_clear 18 = .ok (.putfield 19, 3) := by decide +kernel
theorem dX0_clear_21 : decode cX0_clear 21 = .ok (.return_, 1) := by decide +kernel
theorem dX0_isNumber_0 : decode cX0_isNumber 0 = .ok (.aload_n 0, 1) := by decide +kernel
theorem dX0_isNumber_1 : decode cX0_isNumber 1 = .ok (.getfield 7, 3) := by decide +kernel
theorem dX0_isNumber_4 : decode cX0_isNumber 4 = .ok (.bipush 48, 2) := by decide +kernel
theorem dX0_isNumber_6 : decode cX0_isNumber 6 = .ok (.if_icmp .eq 12, 3) := by decide +kernel
theorem dX0_isNumber_9 : decode cX0_isNumber 9 = .ok (.aload_n 0, 1) := by decide +kernel
theorem dX0_isNumber_10 : decode cX0_isNumber 10 = .ok (.getfield 7, 3) := by decide +kernel
theorem dX0_isNumber_13 : decode cX0_isNumber 13 = .ok (.bipush 36, 2) := by decide +kernel
theorem dX0_isNumber_15 : decode cX0_isNumber 15 = .ok (.if_icmp .ne 7, 3) := by decide +kernel
theorem dX0_isNumber_18 : decode cX0_isNumber 18 = .ok (.iconst 1, 1) := by decide +kernel
theorem dX0_isNumber_19 : decode cX0_isNumber 19 = .ok (.goto 4, 3) := by decide +kernel
theorem dX0_isNumber_22 : decode cX0_isNumber 22 = .ok (.iconst 0, 1) := by decide +kernel
theorem dX0_isNumber_23 : decode cX0_isNumber 23 = .ok (.ireturn, 1) := by decide +kernel
theorem dX0_isNotByLine_0 : decode cX0_isNotByLine 0 = .ok (.aload_n 0, 1) := by decide +kernel
theorem dX0_isNotByLine_1 : decode cX0_isNotByLine 1 = .ok (.getfield 19, 3) := by decide +kernel
theorem dX0_isNotByLine_4 : decode cX0_isNotByLine 4 = .ok (.ifCond .eq 25, 3) := by decide +kernel
theorem dX0_isNotByLine_7 : decode cX0_isNotByLine 7 = .ok (.aload_n 0, 1) := by decide +kernel
theorem dX0_isNotByLine_8 : decode cX0_isNotByLine 8 = .ok (.getfield 7, 3) := by decide +kernel
theorem dX0_isNotByLine_11 : decode cX0_isNotByLine 11 = .ok (.bipush 48, 2) := by decide +kernel
theorem dX0_isNotByLine_13 : decode cX0_isNotByLine 13 = .ok (.if_icmp .eq 16, 3) := by decide +kernel
theorem dX0_isNotByLine_16 : decode cX0_isNotByLine 16 = .ok (.aload_n 0, 1) := by decide +kernel
theorem dX0_isNotByLine_17 : decode cX0_isNotByLine 17 = .ok (.getfield 7, 3) := by decide +kernel
theorem dX0_isNotByLine_20 : decode cX0_isNotByLine 20 = .ok (.bipush 36, 2) := by decide +kernel
theorem dX0_isNotByLine_22 : decode cX0_isNotByLine 22 = .ok (.if_icmp .eq 7, 3) := by decide +kernel
theorem dX0_isNotByLine_25 : decode cX0_isNotByLine 25 = .ok (.iconst 1, 1) := by decide +kernel
theorem dX0_isNotByLine_26 : decode cX0_isNotByLine 26 = .ok (.goto 4, 3) := by decide +kernel
theorem dX0_isNotByLine_29 : decode cX0_isNotByLine 29 = .ok (.iconst 0, 1) := by decide +kernel
theorem dX0_isNotByLine_30 : decode cX0_isNotByLine 30 = .ok (.ireturn, 1) := by decide +kernel
theorem dX1_init_0 : decode cX1_init 0 = .ok (.aload_n 0, 1) := by decide +kernel
theorem dX1_init_1 : decode cX1_init 1 = .ok (.invokespecial 3, 3) := by decide +kernel
theorem dX1_init_4 : decode cX1_init 4 = .ok (.aload_n 0, 1) := by decide +kernel
theorem dX1_init_5 : decode cX1_init 5 = .ok (.aload_n 1, 1) := by decide +kernel
theorem dX1_init_6 : decode cX1_init 6 = .ok (.putfield 9, 3) := by decide +kernel
theorem dX1_init_9 : decode cX1_init 9 = .ok (.aload_n 0, 1) := by decide +kernel
theorem dX1_init_10 : decode cX1_init 10 = .ok (.aload_n 2, 1) := by decide +kernel
theorem dX1_init_11 : decode cX1_init 11 = .ok (.putfield 15, 3) := by decide +kernel
theorem dX1_init_14 : decode cX1_init 14 = .ok (.aload_n 0, 1) := by decide +kernel
theorem dX1_init_15 : decode cX1_init 15 = .ok (.aload_n 3, 1) := by decide +kernel
theorem dX1_init_16 : decode cX1_init 16 = .ok (.putfield 19, 3) := by decide +kernel
theorem dX1_init_19 : decode cX1_init 19 = .ok (.aload_n 0, 1) := by decide +kernel
theorem dX1_init_20 : decode cX1_init 20 = .ok (.aload 4, 2) := by decide +kernel
theorem dX1_init_22 : decode cX1_init 22 = .ok (.putfield 23, 3) := by decide +kernel
theorem dX1_init_25 : decode cX1_init 25 = .ok (.aload_n 0, 1) := by decide +kernel
theorem dX1_init_26 : decode cX1_init 26 = .ok (.aload 5, 2) := by decide +kernel
theorem dX1_init_28 : decode cX1_init 28 = .ok (.putfield 26, 3) := by decide +kernel
theorem dX1_init_31 : decode cX1_init 31 = .ok (.aload_n 0, 1) := by decide +kernel
theorem dX1_init_32 : decode cX1_init 32 = .ok (.aload 6, 2) := by decide +kernel
theorem dX1_init_34 : decode cX1_init 34 = .ok (.putfield 30, 3) := by decide +kernel
theorem dX1_init_37 : decode cX1_init 37 = .ok (.aload_n 0, 1) := by decide +kernel
theorem dX1_init_38 : decode cX1_init 38 = .ok (.new 34, 3) := by decide +kernel
theorem dX1_init_41 : decode cX1_init 41 = .ok (.dup, 1) := by decide +kernel
theorem dX1_init_42 : decode cX1_init 42 = .ok (.invokespecial 36, 3) := by decide +kernel
theorem dX1_init_45 : decode cX1_init 45 = .ok (.putfield 37, 3) := by decide +kernel
theorem dX1_init_48 : decode cX1_init 48 = .ok (.aload_n 0, 1) := by decide +kernel
theorem dX1_init_49 : decode cX1_init 49 = .ok (.new 40, 3) := by decide +kernel
theorem dX1_init_52 : decode cX1_init 52 = .ok (.dup, 1) := by decide +kernel
theorem dX1_init_53 : decode cX1_init 53 = .ok (.iconst 1, 1) := by decide +kernel
theorem dX1_init_54 : decode cX1_init 54 = .ok (.invokespecial 42, 3) := by decide +kernel
theorem dX1_init_57 : decode cX1_init 57 = .ok (.putfield 45, 3) := by decide +kernel
theorem dX1_init_60 : decode cX1_init 60 = .ok (.aload_n 0, 1) := by decide +kernel
theorem dX1_init_61 : decode cX1_init 61 = .ok (.new 40, 3) := by decide +kernel
theorem dX1_init_64 : decode cX1_init 64 = .ok (.dup, 1) := by decide +kernel
theorem dX1_init_65 : decode cX1_init 65 = .ok (.bipush 41, 2) := by decide +kernel
theorem dX1_init_67 : decode cX1_init 67 = .ok (.invokespecial 42, 3) := by decide +kernel
theorem dX1_init_70 : decode cX1_init 70 = .ok (.putfield 49, 3) := by decide +kernel
theorem dX1_init_73 : decode cX1_init 73 = .ok (.aload_n 0, 1) := by decide +kernel
theorem dX1_init_74 : decode cX1_init 74 = .ok (.new 40, 3) := by decide +kernel
theorem dX1_init_77 : decode cX1_init 77 = .ok (.dup, 1) := by decide +kernel
theorem dX1_init_78 : decode cX1_init 78 = .ok (.bipush 60, 2) := by decide +kernel
theorem dX1_init_80 : decode cX1_init 80 = .ok (.invokespecial 42, 3) := by decide +kernel
theorem dX1_init_83 : decode cX1_init 83 = .ok (.putfield 52, 3) := by decide +kernel
theorem dX1_init_86 : decode cX1_init 86 = .ok (.return_, 1) := by decide +kernel
theorem dX1_perform_0 : decode cX1_perform 0 = .ok (.aload_n 0, 1) := by decide +kernel
theorem dX1_perform_1 : decode cX1_perform 1 = .ok (.invokevirtual 55, 3) := by decide +kernel
theorem dX1_perform_4 : decode cX1_perform 4 = .ok (.aload_n 0, 1) := by decide +kernel
theorem dX1_perform_5 : decode cX1_perform 5 = .ok (.invokevirtual 58, 3) := by decide +kernel
theorem dX1_perform_8 : decode cX1_perform 8 = .ok (.iconst 0, 1) := by decide +kernel
theorem dX1_perform_9 : decode cX1_perform 9 = .ok (.istore_n 1, 1) := by decide +kernel
theorem dX1_perform_10 : decode cX1_perform 10 = .ok (.iconst 0, 1) := by decide +kernel
theorem dX1_perform_11 : decode cX1_perform 11 = .ok (.istore_n 2, 1) := by decide +kernel
theorem dX1_perform_12 : decode cX1_perform 12 = .ok (.iload_n 2, 1) := by decide +kernel
theorem dX1_perform_13 : decode cX1_perform 13 = .ok (.sipush 440, 3) := by decide +kernel
theorem dX1_perform_16 : decode cX1_perform 16 = .ok (.if_icmp .gt 94, 3) := by decide +kernel
theorem dX1_perform_19 : decode cX1_perform 19 = .ok (.aload_n 0, 1) := by decide +kernel
theorem dX1_perform_20 : decode cX1_perform 20 = .ok (.getfield 61, 3) := by decide +kernel
theorem dX1_perform_23 : decode cX1_perform 23 = .ok (.ifCond .eq 87, 3) := by decide +kernel
theorem dX1_perform_26 : decode cX1_perform 26 = .ok (.aload_n 0, 1) := by decide +kernel
theorem dX1_perform_27 : decode cX1_perform 27 = .ok (.getfield 65, 3) := by decide +kernel
theorem dX1_perform_30 : decode cX1_perform 30 = .ok (.ifCond .ne 80, 3) := by decide +kernel
theorem dX1_perform_33 : decode cX1_perform 33 = .ok (.aload_n 0, 1) := by decide +kernel
theorem dX1_perform_34 : decode cX1_perform 34 = .ok (.getfield 69, 3) := by decide +kernel
theorem dX1_perform_37 : decode cX1_perform 37 = .ok (.ifCond .ne 27, 3) := by decide +kernel
theorem dX1_perform_40 : decode cX1_perform 40 = .ok (.iload_n 1, 1) := by decide +kernel
theorem dX1_perform_41 : decode cX1_perform 41 = .ok (.ifCond .lt 23, 3) := by decide +kernel
theorem dX1_perform_44 : decode cX1_perform 44 = .ok (.iload_n 1, 1) := by decide +kernel
theorem dX1_perform_45 : decode cX1_perform 45 = .ok (.aload_n 0, 1) := by decide +kernel
theorem dX1_perform_46 : decode cX1_perform 46 = .ok (.getfield 9, 3) := by decide +kernel
theorem dX1_perform_49 : decode cX1_perform 49 = .ok (.getfield 72, 3) := by decide +kernel
theorem dX1_perform_52 : decode cX1_perform 52 = .ok (.if_icmp .ge 12, 3) := by decide +kernel
theorem dX1_perform_55 : decode cX1_perform 55 = .ok (.aload_n 0, 1) := by decide +kernel
theorem dX1_perform_56 : decode cX1_perform 56 = .ok (.iload_n 1, 1) := by decide +kernel
theorem dX1_perform_57 : decode cX1_perform 57 = .ok (.invokevirtual 77, 3) := by decide +kernel
theorem dX1_perform_60 : decode cX1_perform 60 = .ok (.istore_n 1, 1) := by decide +kernel
theorem dX1_perform_61 : decode cX1_perform 61 = .ok (.goto 43, 3) := by decide +kernel
theorem dX1_perform_64 : decode cX1_perform 64 = .ok (.aload_n 0, 1) := by decide +kernel
theorem dX1_perform_65 : decode cX1_perform 65 = .ok (.invokevirtual 81, 3) := by decide +kernel
theorem dX1_perform_68 : decode cX1_perform 68 = .ok (.aload_n 0, 1) := by decide +kernel
theorem dX1_perform_69 : decode cX1_perform 69 = .ok (.getfield 84, 3) := by decide +kernel
theorem dX1_perform_72 : decode cX1_perform 72 = .ok (.ifCond .eq 10, 3) := by decide +kernel
theorem dX1_perform_75 : decode cX1_perform 75 = .ok (.aload_n 0, 1) := by decide +kernel
theorem dX1_perform_76 : decode cX1_perform 76 = .ok (.invokevirtual 87, 3) := by decide +kernel
theorem dX1_perform_79 : decode cX1_perform 79 = .ok (.goto 31, 3) := by decide +kernel
theorem dX1_perform_82 : decode cX1_perform 82 = .ok (.aload_n 0, 1) := by decide +kernel
theorem dX1_perform_83 : decode cX1_perform 83 = .ok (.invokevirtual 58, 3) := by decide +kernel
theorem dX1_perform_86 : decode cX1_perform 86 = .ok (.aload_n 0, 1) := by decide +kernel
theorem dX1_perform_87 : decode cX1_perform 87 = .ok (.getfield 69, 3) := by decide +kernel
theorem dX1_perform_90 : decode cX1_perform 90 = .ok (.ifCond .eq 7, 3) := by decide +kernel
theorem dX1_perform_93 : decode cX1_perform 93 = .ok (.iload_n 1, 1) := by decide +kernel
theorem dX1_perform_94 : decode cX1_perform 94 = .ok (.goto 4, 3) := by decide +kernel
theorem dX1_perform_97 : decode cX1_perform 97 = .ok (.iconst 0, 1) := by decide +kernel
theorem dX1_perform_98 : decode cX1_perform 98 = .ok (.istore_n 1, 1) := by decide +kernel
theorem dX1_perform_99 : decode cX1_perform 99 = .ok (.aload_n 0, 1) := by decide +kernel
theorem dX1_perform_100 : decode cX1_perform 100 = .ok (.iconst 0, 1) := by decide +kernel
theorem dX1_perform_101 : decode cX1_perform 101 = .ok (.putfield 69, 3) := by decide +kernel
theorem dX1_perform_104 : decode cX1_perform 104 = .ok (.iinc 2 1, 3) := by decide +kernel
theorem dX1_perform_107 : decode cX1_perform 107 = .ok (.goto (-95), 3) := by decide +kernel
theorem dX1_perform_110 : decode cX1_perform 110 = .ok (.aload_n 0, 1) := by decide +kernel
theorem dX1_perform_111 : decode cX1_perform 111 = .ok (.getfield 65, 3) := by decide +kernel
theorem dX1_perform_114 : decode cX1_perform 114 = .ok (.ifCond .eq 16, 3) := by decide +kernel
theorem dX1_perform_117 : decode cX1_perform 117 = .ok (.aload_n 0, 1) := by decide +kernel
theorem dX1_perform_118 : decode cX1_perform 118 = .ok (.getfield 19, 3) := by decide +kernel
theorem dX1_perform_121 : decode cX1_perform 121 = .ok (.aload_n 0, 1) := by decide +kernel
theorem dX1_perform_122 : decode cX1_perform 122 = .ok (.getfield 23, 3) := by decide +kernel
theorem dX1_perform_125 : decode cX1_perform 125 = .ok (.invokevirtual 90, 3) := by decide +kernel
theorem dX1_perform_128 : decode cX1_perform 128 = .ok (.iconst (-1), 1) := by decide +kernel
theorem dX1_perform_129 : decode cX1_perform 129 = .ok (.ireturn, 1) := by decide +kernel
theorem dX1_perform_130 : decode cX1_perform 130 = .ok (.aload_n 0, 1) := by decide +kernel
theorem dX1_perform_131 : decode cX1_perform 131 = .ok (.getfield 37, 3) := by decide +kernel
theorem dX1_perform_134 : decode cX1_perform 134 = .ok (.aload_n 0, 1) := by decide +kernel
theorem dX1_perform_135 : decode cX1_perform 135 = .ok (.getfield 37, 3) := by decide +kernel
theorem dX1_perform_138 : decode cX1_perform 138 = .ok (.getfield 96, 3) := by decide +kernel
theorem dX1_perform_141 : decode cX1_perform 141 = .ok (.getfield 99, 3) := by decide +kernel
theorem dX1_perform_144 : decode cX1_perform 144 = .ok (.putfield 100, 3) := by decide +kernel
theorem dX1_perform_147 : decode cX1_perform 147 = .ok (.aload_n 0, 1) := by decide +kernel
theorem dX1_perform_148 : decode cX1_perform 148 = .ok (.getfield 15, 3) := by decide +kernel
theorem dX1_perform_151 : decode cX1_perform 151 = .ok (.aload_n 0, 1) := by decide +kernel
theorem dX1_perform_152 : decode cX1_perform 152 = .ok (.getfield 37, 3) := by decide +kernel
theorem dX1_perform_155 : decode cX1_perform 155 = .ok (.invokevirtual 103, 3) := by decide +kernel
theorem dX1_perform_158 : decode cX1_perform 158 = .ok (.aload_n 0, 1) := by decide +kernel
theorem dX1_perform_159 : decode cX1_perform 159 = .ok (.getfield 15, 3) := by decide +kernel
theorem dX1_perform_162 : decode cX1_perform 162 = .ok (.aload_n 0, 1) := by decide +kernel
theorem dX1_perform_163 : decode cX1_perform 163 = .ok (.getfield 37, 3) := by decide +kernel
theorem dX1_perform_166 : decode cX1_perform 166 = .ok (.getfield 106, 3) := by decide +kernel
theorem dX1_perform_169 : decode cX1_perform 169 = .ok (.putfield 106, 3) := by decide +kernel
theorem dX1_perform_172 : decode cX1_perform 172 = .ok (.aload_n 0, 1) := by decide +kernel
theorem dX1_perform_173 : decode cX1_perform 173 = .ok (.getfield 109, 3) := by decide +kernel
theorem dX1_perform_176 : decode cX1_perform 176 = .ok (.ireturn, 1) := by decide +kernel
theorem dX1_begin_0 : decode cX1_begin 0 = .ok (.aload_n 0, 1) := by decide +kernel
theorem dX1_begin_1 : decode cX1_begin 1 = .ok (.getfield 23, 3) := by decide +kernel
theorem dX1_begin_4 : decode cX1_begin 4 = .ok (.aload_n 0, 1) := by decide +kernel
theorem dX1_begin_5 : decode cX1_begin 5 = .ok (.getfield 19, 3) := by decide +kernel
theorem dX1_begin_8 : decode cX1_begin 8 = .ok (.invokevirtual 90, 3) := by decide +kernel
theorem dX1_begin_11 : decode cX1_begin 11 = .ok (.aload_n 0, 1) := by decide +kernel
theorem dX1_begin_12 : decode cX1_begin 12 = .ok (.getfield 37, 3) := by decide +kernel
theorem dX1_begin_15 : decode cX1_begin 15 = .ok (.aload_n 0, 1) := by decide +kernel
theorem dX1_begin_16 : decode cX1_begin 16 = .ok (.getfield 15, 3) := by decide +kernel
theorem dX1_begin_19 : decode cX1_begin 19 = .ok (.invokevirtual 103, 3) := by decide +kernel
theorem dX1_begin_22 : decode cX1_begin 22 = .ok (.aload_n 0, 1) := by decide +kernel
theorem dX1_begin_23 : decode cX1_begin 23 = .ok (.getfield 37, 3) := by decide +kernel
theorem dX1_begin_26 : decode cX1_begin 26 = .ok (.getfield 96, 3) := by decide +kernel
theorem dX1_begin_29 : decode cX1_begin 29 = .ok (.iconst 0, 1) := by decide +kernel
theorem dX1_begin_30 : decode cX1_begin 30 = .ok (.invokevirtual 112, 3) := by decide +kernel
theorem dX1_begin_33 : decode cX1_begin 33 = .ok (.aload_n 0, 1) := by decide +kernel
theorem dX1_begin_34 : decode cX1_begin 34 = .ok (.getfield 37, 3) := by decide +kernel
theorem dX1_begin_37 : decode cX1_begin 37 = .ok (.aload_n 0, 1) := by decide +kernel
theorem dX1_begin_38 : decode cX1_begin 38 = .ok (.getfield 15, 3) := by decide +kernel
theorem dX1_begin_41 : decode cX1_begin 41 = .ok (.getfield 106, 3) := by decide +kernel
theorem dX1_begin_44 : decode cX1_begin 44 = .ok (.putfield 106, 3) := by decide +kernel
theorem dX1_begin_47 : decode cX1_begin 47 = .ok (.aload_n 0, 1) := by decide +kernel
theorem dX1_begin_48 : decode cX1_begin 48 = .ok (.iconst 0, 1) := by decide +kernel
theorem dX1_begin_49 : decode cX1_begin 49 = .ok (.putfield 115, 3) := by decide +kernel
theorem dX1_begin_52 : decode cX1_begin 52 = .ok (.aload_n 0, 1) := by decide +kernel
theorem dX1_begin_53 : decode cX1_begin 53 = .ok (.iconst 0, 1) := by decide +kernel
theorem dX1_begin_54 : decode cX1_begin 54 = .ok (.putfield 118, 3) := by decide +kernel
theorem dX1_begin_57 : decode cX1_begin 57 = .ok (.aload_n 0, 1) := by decide +kernel
theorem dX1_begin_58 : decode cX1_begin 58 = .ok (.iconst 0, 1) := by decide +kernel
theorem dX1_begin_59 : decode cX1_begin 59 = .ok (.putfield 109, 3) := by decide +kernel
theorem dX1_begin_62 : decode cX1_begin 62 = .ok (.aload_n 0, 1) := by decide +kernel
theorem dX1_begin_63 : decode cX1_begin 63 = .ok (.iconst 0, 1) := by decide +kernel
theorem dX1_begin_64 : decode cX1_begin 64 = .ok (.putfield 65, 3) := by decide +kernel
theorem dX1_begin_67 : decode cX1_begin 67 = .ok (.aload_n 0, 1) := by decide +kernel
theorem dX1_begin_68 : decode cX1_begin 68 = .ok (.iconst 0, 1) := by decide +kernel
theorem dX1_begin_69 : decode cX1_begin 69 = .ok (.putfield 69, 3) := by decide +kernel
theorem dX1_begin_72 : decode cX1_begin 72 = .ok (.aload_n 0, 1) := by decide +kernel
theorem dX1_begin_73 : decode cX1_begin 73 = .ok (.iconst 0, 1) := by decide +kernel
theorem dX1_begin_74 : decode cX1_begin 74 = .ok (.putfield 84, 3) := by decide +kernel
theorem dX1_begin_77 : decode cX1_begin 77 = .ok (.iconst 0, 1) := by decide +kernel
theorem dX1_begin_78 : decode cX1_begin 78 = .ok (.istore_n 1, 1) := by decide +kernel
theorem dX1_begin_79 : decode cX1_begin 79 = .ok (.iload_n 1, 1) := by decide +kernel
theorem dX1_begin_80 : decode cX1_begin 80 = .ok (.aload_n 0, 1) := by decide +kernel
theorem dX1_begin_81 : decode cX1_begin 81 = .ok (.getfield 9, 3) := by decide +kernel
theorem dX1_begin_84 : decode cX1_begin 84 = .ok (.getfield 72, 3) := by decide +kernel
theorem dX1_begin_87 : decode cX1_begin 87 = .ok (.if_icmp .ge 56, 3) := by decide +kernel
theorem dX1_begin_90 : decode cX1_begin 90 = .ok (.aload_n 0, 1) := by decide +kernel
theorem dX1_begin_91 : decode cX1_begin 91 = .ok (.getfield 9, 3) := by decide +kernel
theorem dX1_begin_94 : decode cX1_begin 94 = .ok (.iload_n 1, 1) := by decide +kernel
theorem dX1_begin_95 : decode cX1_begin 95 = .ok (.invokevirtual 121, 3) := by decide +kernel
theorem dX1_begin_98 : decode cX1_begin 98 = .ok (.astore_n 2, 1) := by decide +kernel
theorem dX1_begin_99 : decode cX1_begin 99 = .ok (.aload_n 2, 1) := by decide +kernel
theorem dX1_begin_100 : decode cX1_begin 100 = .ok (.ifnull 12, 3) := by decide +kernel
theorem dX1_begin_103 : decode cX1_begin 103 = .ok (.aload_n 2, 1) := by decide +kernel
theorem dX1_begin_104 : decode cX1_begin 104 = .ok (.getfield 125, 3) := by decide +kernel
theorem dX1_begin_107 : decode cX1_begin 107 = .ok (.bipush 119, 2) := by decide +kernel
theorem dX1_begin_109 : decode cX1_begin 109 = .ok (.if_icmp .eq 7, 3) := by decide +kernel
theorem dX1_begin_112 : decode cX1_begin 112 = .ok (.aconst_null, 1) := by decide +kernel
theorem dX1_begin_113 : decode cX1_begin 113 = .ok (.goto 14, 3) := by decide +kernel
theorem dX1_begin_116 : decode cX1_begin 116 = .ok (.aload_n 0, 1) := by decide +kernel
theorem dX1_begin_117 : decode cX1_begin 117 = .ok (.getfield 19, 3) := by decide +kernel
theorem dX1_begin_120 : decode cX1_begin 120 = .ok (.aload_n 2, 1) := by decide +kernel
theorem dX1_begin_121 : decode cX1_begin 121 = .ok (.getfield 130, 3) := by decide +kernel
theorem dX1_begin_124 : decode cX1_begin 124 = .ok (.invokevirtual 133, 3) := by decide +kernel
theorem dX1_begin_127 : decode cX1_begin 127 = .ok (.astore_n 3, 1) := by decide +kernel
theorem dX1_begin_128 : decode cX1_begin 128 = .ok (.aload_n 3, 1) := by decide +kernel
theorem dX1_begin_129 : decode cX1_begin 129 = .ok (.ifnull 8, 3) := by decide +kernel
theorem dX1_begin_132 : decode cX1_begin 132 = .ok (.aload_n 3, 1) := by decide +kernel
theorem dX1_begin_133 : decode cX1_begin 133 = .ok (.iconst 0, 1) := by decide +kernel
theorem dX1_begin_134 : decode cX1_begin 134 = .ok (.invokevirtual 112, 3) := by decide +kernel
theorem dX1_begin_137 : decode cX1_begin 137 = .ok (.iinc 1 1, 3) := by decide +kernel
theorem dX1_begin_140 : decode cX1_begin 140 = .ok (.goto (-61), 3) := by decide +kernel
theorem dX1_begin_143 : decode cX1_begin 143 = .ok (.return_, 1) := by decide +kernel
theorem dX1_takeNext_0 : decode cX1_takeNext 0 = .ok (.aload_n 0, 1) := by decide +kernel
theorem dX1_takeNext_1 : decode cX1_takeNext 1 = .ok (.aload_n 0, 1) := by decide +kernel
theorem dX1_takeNext_2 : decode cX1_takeNext 2 = .ok (.getfield 115, 3) := by decide +kernel
theorem dX1_takeNext_5 : decode cX1_takeNext 5 = .ok (.aload_n 0, 1) := by decide +kernel
theorem dX1_takeNext_6 : decode cX1_takeNext 6 = .ok (.getfield 15, 3) := by decide +kernel
theorem dX1_takeNext_9 : decode cX1_takeNext 9 = .ok (.getfield 96, 3) := by decide +kernel
theorem dX1_takeNext_12 : decode cX1_takeNext 12 = .ok (.getfield 99, 3) := by decide +kernel
theorem dX1_takeNext_15 : decode cX1_takeNext 15 = .ok (.if_icmp .ge 7, 3) := by decide +kernel
theorem dX1_takeNext_18 : decode cX1_takeNext 18 = .ok (.iconst 1, 1) := by decide +kernel
theorem dX1_takeNext_19 : decode cX1_takeNext 19 = .ok (.goto 4, 3) := by decide +kernel
theorem dX1_takeNext_22 : decode cX1_takeNext 22 = .ok (.iconst 0, 1) := by decide +kernel
theorem dX1_takeNext_23 : decode cX1_takeNext 23 = .ok (.putfield 61, 3) := by decide +kernel
theorem dX1_takeNext_26 : decode cX1_takeNext 26 = .ok (.aload_n 0, 1) := by decide +kernel
theorem dX1_takeNext_27 : decode cX1_takeNext 27 = .ok (.getfield 61, 3) := by decide +kernel
theorem dX1_takeNext_30 : decode cX1_takeNext 30 = .ok (.ifCond .ne 4, 3) := by decide +kernel
theorem dX1_takeNext_33 : decode cX1_takeNext 33 = .ok (.return_, 1) := by decide +kernel
theorem dX1_takeNext_34 : decode cX1_takeNext 34 = .ok (.aload_n 0, 1) := by decide +kernel
theorem dX1_takeNext_35 : decode cX1_takeNext 35 = .ok (.dup, 1) := by decide +kernel
theorem dX1_takeNext_36 : decode cX1_takeNext 36 = .ok (.getfield 115, 3) := by decide +kernel
theorem dX1_takeNext_39 : decode cX1_takeNext 39 = .ok (.iconst 1, 1) := by decide +kernel
theorem dX1_takeNext_40 : decode cX1_takeNext 40 = .ok (.iadd, 1) := by decide +kernel
theorem dX1_takeNext_41 : decode cX1_takeNext 41 = .ok (.putfield 115, 3) := by decide +kernel
theorem dX1_takeNext_44 : decode cX1_takeNext 44 = .ok (.aload_n 0, 1) := by decide +kernel
theorem dX1_takeNext_45 : decode cX1_takeNext 45 = .ok (.dup, 1) := by decide +kernel
theorem dX1_takeNext_46 : decode cX1_takeNext 46 = .ok (.getfield 118, 3) := by decide +kernel
theorem dX1_takeNext_49 : decode cX1_takeNext 49 = .ok (.iconst 1, 1) := by decide +kernel
theorem dX1_takeNext_50 : decode cX1_takeNext 50 = .ok (.iadd, 1) := by decide +kernel
theorem dX1_takeNext_51 : decode cX1_takeNext 51 = .ok (.putfield 118, 3) := by decide +kernel
theorem dX1_takeNext_54 : decode cX1_takeNext 54 = .ok (.aload_n 0, 1) := by decide +kernel
theorem dX1_takeNext_55 : decode cX1_takeNext 55 = .ok (.aload_n 0, 1) := by decide +kernel
theorem dX1_takeNext_56 : decode cX1_takeNext 56 = .ok (.getfield 115, 3) := by decide +kernel
theorem dX1_takeNext_59 : decode cX1_takeNext 59 = .ok (.putfield 137, 3) := by decide +kernel
theorem dX1_takeNext_62 : decode cX1_takeNext 62 = .ok (.aload_n 0, 1) := by decide +kernel
theorem dX1_takeNext_63 : decode cX1_takeNext 63 = .ok (.aload_n 0, 1) := by decide +kernel
theorem dX1_takeNext_64 : decode cX1_takeNext 64 = .ok (.getfield 15, 3) := by decide +kernel
theorem dX1_takeNext_67 : decode cX1_takeNext 67 = .ok (.aload_n 0, 1) := by decide +kernel
theorem dX1_takeNext_68 : decode cX1_takeNext 68 = .ok (.getfield 115, 3) := by decide +kernel
theorem dX1_takeNext_71 : decode cX1_takeNext 71 = .ok (.invokevirtual 138, 3) := by decide +kernel
theorem dX1_takeNext_74 : decode cX1_takeNext 74 = .ok (.putfield 141, 3) := by decide +kernel
theorem dX1_takeNext_77 : decode cX1_takeNext 77 = .ok (.aload_n 0, 1) := by decide +kernel
theorem dX1_takeNext_78 : decode cX1_takeNext 78 = .ok (.getfield 45, 3) := by decide +kernel
theorem dX1_takeNext_81 : decode cX1_takeNext 81 = .ok (.iconst 0, 1) := by decide +kernel
theorem dX1_takeNext_82 : decode cX1_takeNext 82 = .ok (.invokevirtual 112, 3) := by decide +kernel
theorem dX1_takeNext_85 : decode cX1_takeNext 85 = .ok (.aload_n 0, 1) := by decide +kernel
theorem dX1_takeNext_86 : decode cX1_takeNext 86 = .ok (.getfield 45, 3) := by decide +kernel
theorem dX1_takeNext_89 : decode cX1_takeNext 89 = .ok (.aload_n 0, 1) := by decide +kernel
theorem dX1_takeNext_90 : decode cX1_takeNext 90 = .ok (.getfield 15, 3) := by decide +kernel
theorem dX1_takeNext_93 : decode cX1_takeNext 93 = .ok (.getfield 96, 3) := by decide +kernel
theorem dX1_takeNext_96 : decode cX1_takeNext 96 = .ok (.aload_n 0, 1) := by decide +kernel
theorem dX1_takeNext_97 : decode cX1_takeNext 97 = .ok (.getfield 115, 3) := by decide +kernel
theorem dX1_takeNext_100 : decode cX1_takeNext 100 = .ok (.invokevirtual 144, 3) := by decide +kernel
theorem dX1_takeNext_103 : decode cX1_takeNext 103 = .ok (.pop, 1) := by decide +kernel
theorem dX1_takeNext_104 : decode cX1_takeNext 104 = .ok (.aload_n 0, 1) := by decide +kernel
theorem dX1_takeNext_105 : decode cX1_takeNext 105 = .ok (.getfield 49, 3) := by decide +kernel
theorem dX1_takeNext_108 : decode cX1_takeNext 108 = .ok (.iconst 0, 1) := by decide +kernel
theorem dX1_takeNext_109 : decode cX1_takeNext 109 = .ok (.invokevirtual 112, 3) := by decide +kernel
theorem dX1_takeNext_112 : decode cX1_takeNext 112 = .ok (.aload_n 0, 1) := by decide +kernel
theorem dX1_takeNext_113 : decode cX1_takeNext 113 = .ok (.iconst 0, 1) := by decide +kernel
theorem dX1_takeNext_114 : decode cX1_takeNext 114 = .ok (.putfield 148, 3) := by decide +kernel
theorem dX1_takeNext_117 : decode cX1_takeNext 117 = .ok (.aload_n 0, 1) := by decide +kernel
theorem dX1_takeNext_118 : decode cX1_takeNext 118 = .ok (.getfield 30, 3) := by decide +kernel
theorem dX1_takeNext_121 : decode cX1_takeNext 121 = .ok (.iconst 0, 1) := by decide +kernel
theorem dX1_takeNext_122 : decode cX1_takeNext 122 = .ok (.putfield 151, 3) := by decide +kernel
theorem dX1_takeNext_125 : decode cX1_takeNext 125 = .ok (.return_, 1) := by decide +kernel
theorem dX1_finishWork_0 : decode cX1_finishWork 0 = .ok (.aload_n 0, 1) := by decide +kernel
theorem dX1_finishWork_1 : decode cX1_finishWork 1 = .ok (.getfield 148, 3) := by decide +kernel
theorem dX1_finishWork_4 : decode cX1_finishWork 4 = .ok (.ifCond .ne 28, 3) := by decide +kernel
theorem dX1_finishWork_7 : decode cX1_finishWork 7 = .ok (.aload_n 0, 1) := by decide +kernel
theorem dX1_finishWork_8 : decode cX1_finishWork 8 = .ok (.getfield 37, 3) := by decide +kernel
theorem dX1_finishWork_11 : decode cX1_finishWork 11 = .ok (.aload_n 0, 1) := by decide +kernel
theorem dX1_finishWork_12 : decode cX1_finishWork 12 = .ok (.getfield 45, 3) := by decide +kernel
theorem dX1_finishWork_15 : decode cX1_finishWork 15 = .ok (.iconst 1, 1) := by decide +kernel
theorem dX1_finishWork_16 : decode cX1_finishWork 16 = .ok (.aload_n 0, 1) := by decide +kernel
theorem dX1_finishWork_17 : decode cX1_finishWork 17 = .ok (.getfield 141, 3) := by decide +kernel
theorem dX1_finishWork_20 : decode cX1_finishWork 20 = .ok (.invokevirtual 156, 3) := by decide +kernel
theorem dX1_finishWork_23 : decode cX1_finishWork 23 = .ok (.ifCond .ne 9, 3) := by decide +kernel
theorem dX1_finishWork_26 : decode cX1_finishWork 26 = .ok (.aload_n 0, 1) := by decide +kernel
theorem dX1_finishWork_27 : decode cX1_finishWork 27 = .ok (.iconst 4, 1) := by decide +kernel
theorem dX1_finishWork_28 : decode cX1_finishWork 28 = .ok (.putfield 65, 3) := by decide +kernel
theorem dX1_finishWork_31 : decode cX1_finishWork 31 = .ok (.return_, 1) := by decide +kernel
theorem dX1_finishWork_32 : decode cX1_finishWork 32 = .ok (.aload_n 0, 1) := by decide +kernel
theorem dX1_finishWork_33 : decode cX1_finishWork 33 = .ok (.aload_n 0, 1) := by decide +kernel
theorem dX1_finishWork_34 : decode cX1_finishWork 34 = .ok (.getfield 49, 3) := by decide +kernel
theorem dX1_finishWork_37 : decode cX1_finishWork 37 = .ok (.invokevirtual 160, 3) := by decide +kernel
theorem dX1_finishWork_40 : decode cX1_finishWork 40 = .ok (.return_, 1) := by decide +kernel
theorem dX1_putNew_0 : decode cX1_putNew 0 = .ok (.iconst 1, 1) := by decide +kernel
theorem dX1_putNew_1 : decode cX1_putNew 1 = .ok (.istore_n 2, 1) := by decide +kernel
theorem dX1_putNew_2 : decode cX1_putNew 2 = .ok (.iload_n 2, 1) := by decide +kernel
theorem dX1_putNew_3 : decode cX1_putNew 3 = .ok (.aload_n 1, 1) := by decide +kernel
theorem dX1_putNew_4 : decode cX1_putNew 4 = .ok (.getfield 99, 3) := by decide +kernel
theorem dX1_putNew_7 : decode cX1_putNew 7 = .ok (.if_icmp .gt 47, 3) := by decide +kernel
theorem dX1_putNew_10 : decode cX1_putNew 10 = .ok (.aload_n 0, 1) := by decide +kernel
theorem dX1_putNew_11 : decode cX1_putNew 11 = .ok (.getfield 37, 3) := by decide +kernel
theorem dX1_putNew_14 : decode cX1_putNew 14 = .ok (.aload_n 1, 1) := by decide +kernel
theorem dX1_putNew_15 : decode cX1_putNew 15 = .ok (.iload_n 2, 1) := by decide +kernel
theorem dX1_putNew_16 : decode cX1_putNew 16 = .ok (.aload_n 0, 1) := by decide +kernel
theorem dX1_putNew_17 : decode cX1_putNew 17 = .ok (.getfield 37, 3) := by decide +kernel
theorem dX1_putNew_20 : decode cX1_putNew 20 = .ok (.getfield 106, 3) := by decide +kernel
theorem dX1_putNew_23 : decode cX1_putNew 23 = .ok (.invokevirtual 156, 3) := by decide +kernel
theorem dX1_putNew_26 : decode cX1_putNew 26 = .ok (.ifCond .ne 9, 3) := by decide +kernel
theorem dX1_putNew_29 : decode cX1_putNew 29 = .ok (.aload_n 0, 1) := by decide +kernel
theorem dX1_putNew_30 : decode cX1_putNew 30 = .ok (.iconst 4, 1) := by decide +kernel
theorem dX1_putNew_31 : decode cX1_putNew 31 = .ok (.putfield 65, 3) := by decide +kernel
theorem dX1_putNew_34 : decode cX1_putNew 34 = .ok (.return_, 1) := by decide +kernel
theorem dX1_putNew_35 : decode cX1_putNew 35 = .ok (.aload_n 0, 1) := by decide +kernel
theorem dX1_putNew_36 : decode cX1_putNew 36 = .ok (.getfield 37, 3) := by decide +kernel
theorem dX1_putNew_39 : decode cX1_putNew 39 = .ok (.dup, 1) := by decide +kernel
theorem dX1_putNew_40 : decode cX1_putNew 40 = .ok (.getfield 106, 3) := by decide +kernel
theorem dX1_putNew_43 : decode cX1_putNew 43 = .ok (.iconst 1, 1) := by decide +kernel
theorem dX1_putNew_44 : decode cX1_putNew 44 = .ok (.iadd, 1) := by decide +kernel
theorem dX1_putNew_45 : decode cX1_putNew 45 = .ok (.putfield 106, 3) := by decide +kernel
theorem dX1_putNew_48 : decode cX1_putNew 48 = .ok (.iinc 2 1, 3) := by decide +kernel
theorem dX1_putNew_51 : decode cX1_putNew 51 = .ok (.goto (-49), 3) := by decide +kernel
theorem dX1_putNew_54 : decode cX1_putNew 54 = .ok (.return_, 1) := by decide +kernel
theorem dX1_doOrder_0 : decode cX1_doOrder 0 = .ok (.aload_n 0, 1) := by decide +kernel
theorem dX1_doOrder_1 : decode cX1_doOrder 1 = .ok (.getfield 9, 3) := by decide +kernel
theorem dX1_doOrder_4 : decode cX1_doOrder 4 = .ok (.iload_n 1, 1) := by decide +kernel
theorem dX1_doOrder_5 : decode cX1_doOrder 5 = .ok (.invokevirtual 121, 3) := by decide +kernel
theorem dX1_doOrder_8 : decode cX1_doOrder 8 = .ok (.astore_n 2, 1) := by decide +kernel
theorem dX1_doOrder_9 : decode cX1_doOrder 9 = .ok (.aload_n 2, 1) := by decide +kernel
theorem dX1_doOrder_10 : decode cX1_doOrder 10 = .ok (.ifnonnull 11, 3) := by decide +kernel
theorem dX1_doOrder_13 : decode cX1_doOrder 13 = .ok (.aload_n 0, 1) := by decide +kernel
theorem dX1_doOrder_14 : decode cX1_doOrder 14 = .ok (.getfield 9, 3) := by decide +kernel
theorem dX1_doOrder_17 : decode cX1_doOrder 17 = .ok (.getfield 72, 3) := by decide +kernel
theorem dX1_doOrder_20 : decode cX1_doOrder 20 = .ok (.ireturn, 1) := by decide +kernel
theorem dX1_doOrder_21 : decode cX1_doOrder 21 = .ok (.aload_n 0, 1) := by decide +kernel
theorem dX1_doOrder_22 : decode cX1_doOrder 22 = .ok (.dup, 1) := by decide +kernel
theorem dX1_doOrder_23 : decode cX1_doOrder 23 = .ok (.getfield 109, 3) := by decide +kernel
theorem dX1_doOrder_26 : decode cX1_doOrder 26 = .ok (.iconst 1, 1) := by decide +kernel
theorem dX1_doOrder_27 : decode cX1_doOrder 27 = .ok (.iadd, 1) := by decide +kernel
theorem dX1_doOrder_28 : decode cX1_doOrder 28 = .ok (.putfield 109, 3) := by decide +kernel
theorem dX1_doOrder_31 : decode cX1_doOrder 31 = .ok (.aload_n 0, 1) := by decide +kernel
theorem dX1_doOrder_32 : decode cX1_doOrder 32 = .ok (.getfield 109, 3) := by decide +kernel
theorem dX1_doOrder_35 : decode cX1_doOrder 35 = .ok (.sipush 400, 3) := by decide +kernel
theorem dX1_doOrder_38 : decode cX1_doOrder 38 = .ok (.if_icmp .gt 10, 3) := by decide +kernel
theorem dX1_doOrder_41 : decode cX1_doOrder 41 = .ok (.aload_n 2, 1) := by decide +kernel
theorem dX1_doOrder_42 : decode cX1_doOrder 42 = .ok (.invokevirtual 164, 3) := by decide +kernel
theorem dX1_doOrder_45 : decode cX1_doOrder 45 = .ok (.ifCond .eq 26, 3) := by decide +kernel
theorem dX1_doOrder_48 : decode cX1_doOrder 48 = .ok (.aload_n 0, 1) := by decide +kernel
theorem dX1_doOrder_49 : decode cX1_doOrder 49 = .ok (.aload_n 0, 1) := by decide +kernel
theorem dX1_doOrder_50 : decode cX1_doOrder 50 = .ok (.getfield 109, 3) := by decide +kernel
theorem dX1_doOrder_53 : decode cX1_doOrder 53 = .ok (.sipush 400, 3) := by decide +kernel
theorem dX1_doOrder_56 : decode cX1_doOrder 56 = .ok (.if_icmp .le 8, 3) := by decide +kernel
theorem dX1_doOrder_59 : decode cX1_doOrder 59 = .ok (.bipush 7, 2) := by decide +kernel
theorem dX1_doOrder_61 : decode cX1_doOrder 61 = .ok (.goto 5, 3) := by decide +kernel
theorem dX1_doOrder_64 : decode cX1_doOrder 64 = .ok (.bipush 8, 2) := by decide +kernel
theorem dX1_doOrder_66 : decode cX1_doOrder 66 = .ok (.putfield 65, 3) := by decide +kernel
theorem dX1_doOrder_69 : decode cX1_doOrder 69 = .ok (.iload_n 1, 1) := by decide +kernel
theorem dX1_doOrder_70 : decode cX1_doOrder 70 = .ok (.ireturn, 1) := by decide +kernel
theorem dX1_doOrder_71 : decode cX1_doOrder 71 = .ok (.aload_n 0, 1) := by decide +kernel
theorem dX1_doOrder_72 : decode cX1_doOrder 72 = .ok (.aload_n 2, 1) := by decide +kernel
theorem dX1_doOrder_73 : decode cX1_doOrder 73 = .ok (.invokevirtual 168, 3) := by decide +kernel
theorem dX1_doOrder_76 : decode cX1_doOrder 76 = .ok (.ifCond .ne 8, 3) := by decide +kernel
theorem dX1_doOrder_79 : decode cX1_doOrder 79 = .ok (.aload_n 2, 1) := by decide +kernel
theorem dX1_doOrder_80 : decode cX1_doOrder 80 = .ok (.getfield 172, 3) := by decide +kernel
theorem dX1_doOrder_83 : decode cX1_doOrder 83 = .ok (.ireturn, 1) := by decide +kernel
theorem dX1_doOrder_84 : decode cX1_doOrder 84 = .ok (.aload_n 2, 1) := by decide +kernel
theorem dX1_doOrder_85 : decode cX1_doOrder 85 = .ok (.invokevirtual 175, 3) := by decide +kernel
theorem dX1_doOrder_88 : decode cX1_doOrder 88 = .ok (.ifCond .eq 66, 3) := by decide +kernel
theorem dX1_doOrder_91 : decode cX1_doOrder 91 = .ok (.aload_n 2, 1) := by decide +kernel
theorem dX1_doOrder_92 : decode cX1_doOrder 92 = .ok (.getfield 125, 3) := by decide +kernel
theorem dX1_doOrder_95 : decode cX1_doOrder 95 = .ok (.bipush 123, 2) := by decide +kernel
theorem dX1_doOrder_97 : decode cX1_doOrder 97 = .ok (.if_icmp .eq 36, 3) := by decide +kernel
theorem dX1_doOrder_100 : decode cX1_doOrder 100 = .ok (.aload_n 0, 1) := by decide +kernel
theorem dX1_doOrder_101 : decode cX1_doOrder 101 = .ok (.getfield 26, 3) := by decide +kernel
theorem dX1_doOrder_104 : decode cX1_doOrder 104 = .ok (.aload_n 0, 1) := by decide +kernel
theorem dX1_doOrder_105 : decode cX1_doOrder 105 = .ok (.getfield 45, 3) := by decide +kernel
theorem dX1_doOrder_108 : decode cX1_doOrder 108 = .ok (.iconst 1, 1) := by decide +kernel
theorem dX1_doOrder_109 : decode cX1_doOrder 109 = .ok (.aload_n 2, 1) := by decide +kernel
theorem dX1_doOrder_110 : decode cX1_doOrder 110 = .ok (.getfield 178, 3) := by decide +kernel
theorem dX1_doOrder_113 : decode cX1_doOrder 113 = .ok (.invokevirtual 181, 3) := by decide +kernel
theorem dX1_doOrder_116 : decode cX1_doOrder 116 = .ok (.aload_n 2, 1) := by decide +kernel
theorem dX1_doOrder_117 : decode cX1_doOrder 117 = .ok (.getfield 125, 3) := by decide +kernel
theorem dX1_doOrder_120 : decode cX1_doOrder 120 = .ok (.bipush 103, 2) := by decide +kernel
theorem dX1_doOrder_122 : decode cX1_doOrder 122 = .ok (.if_icmp .ne 7, 3) := by decide +kernel
theorem dX1_doOrder_125 : decode cX1_doOrder 125 = .ok (.iconst 1, 1) := by decide +kernel
theorem dX1_doOrder_126 : decode cX1_doOrder 126 = .ok (.goto 4, 3) := by decide +kernel
theorem dX1_doOrder_129 : decode cX1_doOrder 129 = .ok (.iconst 0, 1) := by decide +kernel
theorem dX1_doOrder_130 : decode cX1_doOrder 130 = .ok (.if_icmp .ne 7, 3) := by decide +kernel
theorem dX1_doOrder_133 : decode cX1_doOrder 133 = .ok (.iconst 1, 1) := by decide +kernel
theorem dX1_doOrder_134 : decode cX1_doOrder 134 = .ok (.goto 4, 3) := by decide +kernel
theorem dX1_doOrder_137 : decode cX1_doOrder 137 = .ok (.iconst 0, 1) := by decide +kernel
theorem dX1_doOrder_138 : decode cX1_doOrder 138 = .ok (.istore_n 3, 1) := by decide +kernel
theorem dX1_doOrder_139 : decode cX1_doOrder 139 = .ok (.iload_n 3, 1) := by decide +kernel
theorem dX1_doOrder_140 : decode cX1_doOrder 140 = .ok (.ifCond .eq 9, 3) := by decide +kernel
theorem dX1_doOrder_143 : decode cX1_doOrder 143 = .ok (.iload_n 1, 1) := by decide +kernel
theorem dX1_doOrder_144 : decode cX1_doOrder 144 = .ok (.iconst 1, 1) := by decide +kernel
theorem dX1_doOrder_145 : decode cX1_doOrder 145 = .ok (.iadd, 1) := by decide +kernel
theorem dX1_doOrder_146 : decode cX1_doOrder 146 = .ok (.goto 7, 3) := by decide +kernel
theorem dX1_doOrder_149 : decode cX1_doOrder 149 = .ok (.aload_n 2, 1) := by decide +kernel
theorem dX1_doOrder_150 : decode cX1_doOrder 150 = .ok (.getfield 172, 3) := by decide +kernel
theorem dX1_doOrder_153 : decode cX1_doOrder 153 = .ok (.ireturn, 1) := by decide +kernel
theorem dX1_doOrder_154 : decode cX1_doOrder 154 = .ok (.aload_n 2, 1) := by decide +kernel
theorem dX1_doOrder_155 : decode cX1_doOrder 155 = .ok (.invokevirtual 185, 3) := by decide +kernel
theorem dX1_doOrder_158 : decode cX1_doOrder 158 = .ok (.ifCond .eq 9, 3) := by decide +kernel
theorem dX1_doOrder_161 : decode cX1_doOrder 161 = .ok (.aload_n 0, 1) := by decide +kernel
theorem dX1_doOrder_162 : decode cX1_doOrder 162 = .ok (.aload_n 2, 1) := by decide +kernel
theorem dX1_doOrder_163 : decode cX1_doOrder 163 = .ok (.invokevirtual 188, 3) := by decide +kernel
theorem dX1_doOrder_166 : decode cX1_doOrder 166 = .ok (.ireturn, 1) := by decide +kernel
theorem dX1_doOrder_167 : decode cX1_doOrder 167 = .ok (.aload_n 0, 1) := by decide +kernel
theorem dX1_doOrder_168 : decode cX1_doOrder 168 = .ok (.aload_n 2, 1) := by decide +kernel
theorem dX1_doOrder_169 : decode cX1_doOrder 169 = .ok (.invokevirtual 192, 3) := by decide +kernel
theorem dX1_doOrder_172 : decode cX1_doOrder 172 = .ok (.aload_n 0, 1) := by decide +kernel
theorem dX1_doOrder_173 : decode cX1_doOrder 173 = .ok (.getfield 148, 3) := by decide +kernel
theorem dX1_doOrder_176 : decode cX1_doOrder 176 = .ok (.ifCond .eq 13, 3) := by decide +kernel
theorem dX1_doOrder_179 : decode cX1_doOrder 179 = .ok (.aload_n 0, 1) := by decide +kernel
theorem dX1_doOrder_180 : decode cX1_doOrder 180 = .ok (.getfield 9, 3) := by decide +kernel
theorem dX1_doOrder_183 : decode cX1_doOrder 183 = .ok (.getfield 72, 3) := by decide +kernel
theorem dX1_doOrder_186 : decode cX1_doOrder 186 = .ok (.goto 7, 3) := by decide +kernel
theorem dX1_doOrder_189 : decode cX1_doOrder 189 = .ok (.aload_n 2, 1) := by decide +kernel
theorem dX1_doOrder_190 : decode cX1_doOrder 190 = .ok (.getfield 172, 3) := by decide +kernel
theorem dX1_doOrder_193 : decode cX1_doOrder 193 = .ok (.ireturn, 1) := by decide +kernel
theorem dX1_holds_0 : decode cX1_holds 0 = .ok (.aload_n 1, 1) := by decide +kernel
theorem dX1_holds_1 : decode cX1_holds 1 = .ok (.getfield 196, 3) := by decide +kernel
theorem dX1_holds_4 : decode cX1_holds 4 = .ok (.ifCond .eq 11, 3) := by decide +kernel
theorem dX1_holds_7 : decode cX1_holds 7 = .ok (.aload_n 1, 1) := by decide +kernel
theorem dX1_holds_8 : decode cX1_holds 8 = .ok (.getfield 196, 3) := by decide +kernel
theorem dX1_holds_11 : decode cX1_holds 11 = .ok (.iconst 1, 1) := by decide +kernel
theorem dX1_holds_12 : decode cX1_holds 12 = .ok (.if_icmp .ne 5, 3) := by decide +kernel
theorem dX1_holds_15 : decode cX1_holds 15 = .ok (.iconst 1, 1) := by decide +kernel
theorem dX1_holds_16 : decode cX1_holds 16 = .ok (.ireturn, 1) := by decide +kernel
theorem dX1_holds_17 : decode cX1_holds 17 = .ok (.aload_n 1, 1) := by decide +kernel
theorem dX1_holds_18 : decode cX1_holds 18 = .ok (.getfield 196, 3) := by decide +kernel
theorem dX1_holds_21 : decode cX1_holds 21 = .ok (.iconst 2, 1) := by decide +kernel
theorem dX1_holds_22 : decode cX1_holds 22 = .ok (.if_icmp .ne 12, 3) := by decide +kernel
theorem dX1_holds_25 : decode cX1_holds 25 = .ok (.aload_n 0, 1) := by decide +kernel
theorem dX1_holds_26 : decode cX1_holds 26 = .ok (.aload_n 1, 1) := by decide +kernel
theorem dX1_holds_27 : decode cX1_holds 27 = .ok (.getfield 199, 3) := by decide +kernel
theorem dX1_holds_30 : decode cX1_holds 30 = .ok (.invokevirtual 203, 3) := by decide +kernel
theorem dX1_holds_33 : decode cX1_holds 33 = .ok (.ireturn, 1) := by decide +kernel
theorem dX1_holds_34 : decode cX1_holds 34 = .ok (.aload_n 1, 1) := by decide +kernel
theorem dX1_holds_35 : decode cX1_holds 35 = .ok (.getfield 207, 3) := by decide +kernel
theorem dX1_holds_38 : decode cX1_holds 38 = .ok (.aload_n 0, 1) := by decide +kernel
theorem dX1_holds_39 : decode cX1_holds 39 = .ok (.getfield 118, 3) := by decide +kernel
theorem dX1_holds_42 : decode cX1_holds 42 = .ok (.if_icmp .ne 8, 3) := by decide +kernel
theorem dX1_holds_45 : decode cX1_holds 45 = .ok (.aload_n 1, 1) := by decide +kernel
theorem dX1_holds_46 : decode cX1_holds 46 = .ok (.getfield 210, 3) := by decide +kernel
theorem dX1_holds_49 : decode cX1_holds 49 = .ok (.ireturn, 1) := by decide +kernel
theorem dX1_holds_50 : decode cX1_holds 50 = .ok (.aload_n 1, 1) := by decide +kernel
theorem dX1_holds_51 : decode cX1_holds 51 = .ok (.aload_n 0, 1) := by decide +kernel
theorem dX1_holds_52 : decode cX1_holds 52 = .ok (.getfield 118, 3) := by decide +kernel
theorem dX1_holds_55 : decode cX1_holds 55 = .ok (.putfield 207, 3) := by decide +kernel
theorem dX1_holds_58 : decode cX1_holds 58 = .ok (.aload_n 1, 1) := by decide +kernel
theorem dX1_holds_59 : decode cX1_holds 59 = .ok (.getfield 213, 3) := by decide +kernel
theorem dX1_holds_62 : decode cX1_holds 62 = .ok (.invokevirtual 216, 3) := by decide +kernel
theorem dX1_holds_65 : decode cX1_holds 65 = .ok (.istore_n 2, 1) := by decide +kernel
theorem dX1_holds_66 : decode cX1_holds 66 = .ok (.aload_n 0, 1) := by decide +kernel
theorem dX1_holds_67 : decode cX1_holds 67 = .ok (.aload_n 1, 1) := by decide +kernel
theorem dX1_holds_68 : decode cX1_holds 68 = .ok (.getfield 213, 3) := by decide +kernel
theorem dX1_holds_71 : decode cX1_holds 71 = .ok (.invokevirtual 221, 3) := by decide +kernel
theorem dX1_holds_74 : decode cX1_holds 74 = .ok (.istore_n 3, 1) := by decide +kernel
theorem dX1_holds_75 : decode cX1_holds 75 = .ok (.aload_n 1, 1) := by decide +kernel
theorem dX1_holds_76 : decode cX1_holds 76 = .ok (.getfield 225, 3) := by decide +kernel
theorem dX1_holds_79 : decode cX1_holds 79 = .ok (.ifCond .eq 55, 3) := by decide +kernel
theorem dX1_holds_82 : decode cX1_holds 82 = .ok (.iload_n 2, 1) := by decide +kernel
theorem dX1_holds_83 : decode cX1_holds 83 = .ok (.ifCond .eq 11, 3) := by decide +kernel
theorem dX1_holds_86 : decode cX1_holds 86 = .ok (.aload_n 0, 1) := by decide +kernel
theorem dX1_holds_87 : decode cX1_holds 87 = .ok (.getfield 137, 3) := by decide +kernel
theorem dX1_holds_90 : decode cX1_holds 90 = .ok (.iload_n 3, 1) := by decide +kernel
theorem dX1_holds_91 : decode cX1_holds 91 = .ok (.if_icmp .gt 43, 3) := by decide +kernel
theorem dX1_holds_94 : decode cX1_holds 94 = .ok (.aload_n 1, 1) := by decide +kernel
theorem dX1_holds_95 : decode cX1_holds 95 = .ok (.iconst 1, 1) := by decide +kernel
theorem dX1_holds_96 : decode cX1_holds 96 = .ok (.putfield 210, 3) := by decide +kernel
theorem dX1_holds_99 : decode cX1_holds 99 = .ok (.aload_n 1, 1) := by decide +kernel
theorem dX1_holds_100 : decode cX1_holds 100 = .ok (.iload_n 2, 1) := by decide +kernel
theorem dX1_holds_101 : decode cX1_holds 101 = .ok (.ifCond .eq 19, 3) := by decide +kernel
theorem dX1_holds_104 : decode cX1_holds 104 = .ok (.aload_n 0, 1) := by decide +kernel
theorem dX1_holds_105 : decode cX1_holds 105 = .ok (.getfield 137, 3) := by decide +kernel
theorem dX1_holds_108 : decode cX1_holds 108 = .ok (.iload_n 3, 1) := by decide +kernel
theorem dX1_holds_109 : decode cX1_holds 109 = .ok (.if_icmp .ne 7, 3) := by decide +kernel
theorem dX1_holds_112 : decode cX1_holds 112 = .ok (.iconst 1, 1) := by decide +kernel
theorem dX1_holds_113 : decode cX1_holds 113 = .ok (.goto 15, 3) := by decide +kernel
theorem dX1_holds_116 : decode cX1_holds 116 = .ok (.iconst 0, 1) := by decide +kernel
theorem dX1_holds_117 : decode cX1_holds 117 = .ok (.goto 11, 3) := by decide +kernel
theorem dX1_holds_120 : decode cX1_holds 120 = .ok (.aload_n 0, 1) := by decide +kernel
theorem dX1_holds_121 : decode cX1_holds 121 = .ok (.aload_n 1, 1) := by decide +kernel
theorem dX1_holds_122 : decode cX1_holds 122 = .ok (.getfield 213, 3) := by decide +kernel
theorem dX1_holds_125 : decode cX1_holds 125 = .ok (.invokevirtual 203, 3) := by decide +kernel
theorem dX1_holds_128 : decode cX1_holds 128 = .ok (.putfield 228, 3) := by decide +kernel
theorem dX1_holds_131 : decode cX1_holds 131 = .ok (.goto 36, 3) := by decide +kernel
theorem dX1_holds_134 : decode cX1_holds 134 = .ok (.aload_n 1, 1) := by decide +kernel
theorem dX1_holds_135 : decode cX1_holds 135 = .ok (.aload_n 0, 1) := by decide +kernel
theorem dX1_holds_136 : decode cX1_holds 136 = .ok (.aload_n 1, 1) := by decide +kernel
theorem dX1_holds_137 : decode cX1_holds 137 = .ok (.getfield 199, 3) := by decide +kernel
theorem dX1_holds_140 : decode cX1_holds 140 = .ok (.invokevirtual 203, 3) := by decide +kernel
theorem dX1_holds_143 : decode cX1_holds 143 = .ok (.putfield 210, 3) := by decide +kernel
theorem dX1_holds_146 : decode cX1_holds 146 = .ok (.aload_n 1, 1) := by decide +kernel
theorem dX1_holds_147 : decode cX1_holds 147 = .ok (.iload_n 2, 1) := by decide +kernel
theorem dX1_holds_148 : decode cX1_holds 148 = .ok (.ifCond .eq 15, 3) := by decide +kernel
theorem dX1_holds_151 : decode cX1_holds 151 = .ok (.aload_n 0, 1) := by decide +kernel
theorem dX1_holds_152 : decode cX1_holds 152 = .ok (.getfield 137, 3) := by decide +kernel
theorem dX1_holds_155 : decode cX1_holds 155 = .ok (.iload_n 3, 1) := by decide +kernel
theorem dX1_holds_156 : decode cX1_holds 156 = .ok (.if_icmp .lt 7, 3) := by decide +kernel
theorem dX1_holds_159 : decode cX1_holds 159 = .ok (.iconst 1, 1) := by decide +kernel
theorem dX1_holds_160 : decode cX1_holds 160 = .ok (.goto 4, 3) := by decide +kernel
theorem dX1_holds_163 : decode cX1_holds 163 = .ok (.iconst 0, 1) := by decide +kernel
theorem dX1_holds_164 : decode cX1_holds 164 = .ok (.putfield 228, 3) := by decide +kernel
theorem dX1_holds_167 : decode cX1_holds 167 = .ok (.aload_n 1, 1) := by decide +kernel
theorem dX1_holds_168 : decode cX1_holds 168 = .ok (.aload_n 1, 1) := by decide +kernel
theorem dX1_holds_169 : decode cX1_holds 169 = .ok (.getfield 210, 3) := by decide +kernel
theorem dX1_holds_172 : decode cX1_holds 172 = .ok (.ifCond .eq 14, 3) := by decide +kernel
theorem dX1_holds_175 : decode cX1_holds 175 = .ok (.aload_n 1, 1) := by decide +kernel
theorem dX1_holds_176 : decode cX1_holds 176 = .ok (.getfield 228, 3) := by decide +kernel
theorem dX1_holds_179 : decode cX1_holds 179 = .ok (.ifCond .ne 7, 3) := by decide +kernel
theorem dX1_holds_182 : decode cX1_holds 182 = .ok (.iconst 1, 1) := by decide +kernel
theorem dX1_holds_183 : decode cX1_holds 183 = .ok (.goto 4, 3) := by decide +kernel
theorem dX1_holds_186 : decode cX1_holds 186 = .ok (.iconst 0, 1) := by decide +kernel
theorem dX1_holds_187 : decode cX1_holds 187 = .ok (.putfield 225, 3) := by decide +kernel
theorem dX1_holds_190 : decode cX1_holds 190 = .ok (.aload_n 1, 1) := by decide +kernel
theorem dX1_holds_191 : decode cX1_holds 191 = .ok (.getfield 210, 3) := by decide +kernel
theorem dX1_holds_194 : decode cX1_holds 194 = .ok (.ireturn, 1) := by decide +kernel
theorem dX1_numberOf_0 : decode cX1_numberOf 0 = .ok (.aload_n 1, 1) := by decide +kernel
theorem dX1_numberOf_1 : decode cX1_numberOf 1 = .ok (.getfield 231, 3) := by decide +kernel
theorem dX1_numberOf_4 : decode cX1_numberOf 4 = .ok (.bipush 36, 2) := by decide +kernel
theorem dX1_numberOf_6 : decode cX1_numberOf 6 = .ok (.if_icmp .ne 16, 3) := by decide +kernel
theorem dX1_numberOf_9 : decode cX1_numberOf 9 = .ok (.aload_n 0, 1) := by decide +kernel
theorem dX1_numberOf_10 : decode cX1_numberOf 10 = .ok (.getfield 15, 3) := by decide +kernel
theorem dX1_numberOf_13 : decode cX1_numberOf 13 = .ok (.getfield 96, 3) := by decide +kernel
theorem dX1_numberOf_16 : decode cX1_numberOf 16 = .ok (.getfield 99, 3) := by decide +kernel
theorem dX1_numberOf_19 : decode cX1_numberOf 19 = .ok (.goto 7, 3) := by decide +kernel
theorem dX1_numberOf_22 : decode cX1_numberOf 22 = .ok (.aload_n 1, 1) := by decide +kernel
theorem dX1_numberOf_23 : decode cX1_numberOf 23 = .ok (.getfield 234, 3) := by decide +kernel
theorem dX1_numberOf_26 : decode cX1_numberOf 26 = .ok (.aload_n 1, 1) := by decide +kernel
theorem dX1_numberOf_27 : decode cX1_numberOf 27 = .ok (.getfield 237, 3) := by decide +kernel
theorem dX1_numberOf_30 : decode cX1_numberOf 30 = .ok (.iadd, 1) := by decide +kernel
theorem dX1_numberOf_31 : decode cX1_numberOf 31 = .ok (.ireturn, 1) := by decide +kernel
theorem dX1_holdsAt_0 : decode cX1_holdsAt 0 = .ok (.aload_n 1, 1) := by decide +kernel
theorem dX1_holdsAt_1 : decode cX1_holdsAt 1 = .ok (.getfield 231, 3) := by decide +kernel
theorem dX1_holdsAt_4 : decode cX1_holdsAt 4 = .ok (.lookupswitch 111 #[(36, 52), (39, 70), (47, 94), (48, 52), (63, 94)], 52) := by decide +kernel
theorem dX1_holdsAt_56 : decode cX1_holdsAt 56 = .ok (.aload_n 0, 1) := by decide +kernel
theorem dX1_holdsAt_57 : decode cX1_holdsAt 57 = .ok (.getfield 137, 3) := by decide +kernel
theorem dX1_holdsAt_60 : decode cX1_holdsAt 60 = .ok (.aload_n 0, 1) := by decide +kernel
theorem dX1_holdsAt_61 : decode cX1_holdsAt 61 = .ok (.aload_n 1, 1) := by decide +kernel
theorem dX1_holdsAt_62 : decode cX1_holdsAt 62 = .ok (.invokevirtual 221, 3) := by decide +kernel
theorem dX1_holdsAt_65 : decode cX1_holdsAt 65 = .ok (.if_icmp .ne 7, 3) := by decide +kernel
theorem dX1_holdsAt_68 : decode cX1_holdsAt 68 = .ok (.iconst 1, 1) := by decide +kernel
theorem dX1_holdsAt_69 : decode cX1_holdsAt 69 = .ok (.goto 4, 3) := by decide +kernel
theorem dX1_holdsAt_72 : decode cX1_holdsAt 72 = .ok (.iconst 0, 1) := by decide +kernel
theorem dX1_holdsAt_73 : decode cX1_holdsAt 73 = .ok (.ireturn, 1) := by decide +kernel
theorem dX1_holdsAt_74 : decode cX1_holdsAt 74 = .ok (.aload_n 0, 1) := by decide +kernel
theorem dX1_holdsAt_75 : decode cX1_holdsAt 75 = .ok (.getfield 37, 3) := by decide +kernel
theorem dX1_holdsAt_78 : decode cX1_holdsAt 78 = .ok (.aload_n 1, 1) := by decide +kernel
theorem dX1_holdsAt_79 : decode cX1_holdsAt 79 = .ok (.getfield 234, 3) := by decide +kernel
theorem dX1_holdsAt_82 : decode cX1_holdsAt 82 = .ok (.invokevirtual 240, 3) := by decide +kernel
theorem dX1_holdsAt_85 : decode cX1_holdsAt 85 = .ok (.aload_n 0, 1) := by decide +kernel
theorem dX1_holdsAt_86 : decode cX1_holdsAt 86 = .ok (.getfield 141, 3) := by decide +kernel
theorem dX1_holdsAt_89 : decode cX1_holdsAt 89 = .ok (.if_icmp .ne 7, 3) := by decide +kernel
theorem dX1_holdsAt_92 : decode cX1_holdsAt 92 = .ok (.iconst 1, 1) := by decide +kernel
theorem dX1_holdsAt_93 : decode cX1_holdsAt 93 = .ok (.goto 4, 3) := by decide +kernel
theorem dX1_holdsAt_96 : decode cX1_holdsAt 96 = .ok (.iconst 0, 1) := by decide +kernel
theorem dX1_holdsAt_97 : decode cX1_holdsAt 97 = .ok (.ireturn, 1) := by decide +kernel
theorem dX1_holdsAt_98 : decode cX1_holdsAt 98 = .ok (.aload_n 0, 1) := by decide +kernel
theorem dX1_holdsAt_99 : decode cX1_holdsAt 99 = .ok (.getfield 26, 3) := by decide +kernel
theorem dX1_holdsAt_102 : decode cX1_holdsAt 102 = .ok (.aload_n 0, 1) := by decide +kernel
theorem dX1_holdsAt_103 : decode cX1_holdsAt 103 = .ok (.getfield 45, 3) := by decide +kernel
theorem dX1_holdsAt_106 : decode cX1_holdsAt 106 = .ok (.iconst 1, 1) := by decide +kernel
theorem dX1_holdsAt_107 : decode cX1_holdsAt 107 = .ok (.aload_n 1, 1) := by decide +kernel
theorem dX1_holdsAt_108 : decode cX1_holdsAt 108 = .ok (.getfield 234, 3) := by decide +kernel
theorem dX1_holdsAt_111 : decode cX1_holdsAt 111 = .ok (.invokevirtual 181, 3) := by decide +kernel
theorem dX1_holdsAt_114 : decode cX1_holdsAt 114 = .ok (.ireturn, 1) := by decide +kernel
theorem dX1_holdsAt_115 : decode cX1_holdsAt 115 = .ok (.iconst 1, 1) := by decide +kernel
theorem dX1_holdsAt_116 : decode cX1_holdsAt 116 = .ok (.ireturn, 1) := by decide +kernel
theorem dX1_steer_0 : decode cX1_steer 0 = .ok (.aload_n 1, 1) := by decide +kernel
theorem dX1_steer_1 : decode cX1_steer 1 = .ok (.getfield 125, 3) := by decide +kernel
theorem dX1_steer_4 : decode cX1_steer 4 = .ok (.bipush 113, 2) := by decide +kernel
theorem dX1_steer_6 : decode cX1_steer 6 = .ok (.if_icmp .ne 16, 3) := by decide +kernel
theorem dX1_steer_9 : decode cX1_steer 9 = .ok (.aload_n 0, 1) := by decide +kernel
theorem dX1_steer_10 : decode cX1_steer 10 = .ok (.iconst 1, 1) := by decide +kernel
theorem dX1_steer_11 : decode cX1_steer 11 = .ok (.putfield 84, 3) := by decide +kernel
theorem dX1_steer_14 : decode cX1_steer 14 = .ok (.aload_n 0, 1) := by decide +kernel
theorem dX1_steer_15 : decode cX1_steer 15 = .ok (.getfield 9, 3) := by decide +kernel
theorem dX1_steer_18 : decode cX1_steer 18 = .ok (.getfield 72, 3) := by decide +kernel
theorem dX1_steer_21 : decode cX1_steer 21 = .ok (.ireturn, 1) := by decide +kernel
theorem dX1_steer_22 : decode cX1_steer 22 = .ok (.aload_n 1, 1) := by decide +kernel
theorem dX1_steer_23 : decode cX1_steer 23 = .ok (.getfield 125, 3) := by decide +kernel
theorem dX1_steer_26 : decode cX1_steer 26 = .ok (.bipush 78, 2) := by decide +kernel
theorem dX1_steer_28 : decode cX1_steer 28 = .ok (.if_icmp .ne 13, 3) := by decide +kernel
theorem dX1_steer_31 : decode cX1_steer 31 = .ok (.aload_n 0, 1) := by decide +kernel
theorem dX1_steer_32 : decode cX1_steer 32 = .ok (.iconst 1, 1) := by decide +kernel
theorem dX1_steer_33 : decode cX1_steer 33 = .ok (.putfield 69, 3) := by decide +kernel
theorem dX1_steer_36 : decode cX1_steer 36 = .ok (.aload_n 1, 1) := by decide +kernel
theorem dX1_steer_37 : decode cX1_steer 37 = .ok (.getfield 172, 3) := by decide +kernel
theorem dX1_steer_40 : decode cX1_steer 40 = .ok (.ireturn, 1) := by decide +kernel
theorem dX1_steer_41 : decode cX1_steer 41 = .ok (.aload_n 1, 1) := by decide +kernel
theorem dX1_steer_42 : decode cX1_steer 42 = .ok (.getfield 125, 3) := by decide +kernel
theorem dX1_steer_45 : decode cX1_steer 45 = .ok (.bipush 58, 2) := by decide +kernel
theorem dX1_steer_47 : decode cX1_steer 47 = .ok (.if_icmp .eq 22, 3) := by decide +kernel
theorem dX1_steer_50 : decode cX1_steer 50 = .ok (.aload_n 1, 1) := by decide +kernel
theorem dX1_steer_51 : decode cX1_steer 51 = .ok (.getfield 125, 3) := by decide +kernel
theorem dX1_steer_54 : decode cX1_steer 54 = .ok (.bipush 84, 2) := by decide +kernel
theorem dX1_steer_56 : decode cX1_steer 56 = .ok (.if_icmp .ne 18, 3) := by decide +kernel
theorem dX1_steer_59 : decode cX1_steer 59 = .ok (.aload_n 0, 1) := by decide +kernel
theorem dX1_steer_60 : decode cX1_steer 60 = .ok (.getfield 30, 3) := by decide +kernel
theorem dX1_steer_63 : decode cX1_steer 63 = .ok (.getfield 151, 3) := by decide +kernel
theorem dX1_steer_66 : decode cX1_steer 66 = .ok (.ifCond .ne 8, 3) := by decide +kernel
theorem dX1_steer_69 : decode cX1_steer 69 = .ok (.aload_n 1, 1) := by decide +kernel
theorem dX1_steer_70 : decode cX1_steer 70 = .ok (.getfield 172, 3) := by decide +kernel
theorem dX1_steer_73 : decode cX1_steer 73 = .ok (.ireturn, 1) := by decide +kernel
theorem dX1_steer_74 : decode cX1_steer 74 = .ok (.aload_n 1, 1) := by decide +kernel
theorem dX1_steer_75 : decode cX1_steer 75 = .ok (.getfield 130, 3) := by decide +kernel
theorem dX1_steer_78 : decode cX1_steer 78 = .ok (.iconst (-1), 1) := by decide +kernel
theorem dX1_steer_79 : decode cX1_steer 79 = .ok (.if_icmp .ne 11, 3) := by decide +kernel
theorem dX1_steer_82 : decode cX1_steer 82 = .ok (.aload_n 0, 1) := by decide +kernel
theorem dX1_steer_83 : decode cX1_steer 83 = .ok (.getfield 9, 3) := by decide +kernel
theorem dX1_steer_86 : decode cX1_steer 86 = .ok (.getfield 72, 3) := by decide +kernel
theorem dX1_steer_89 : decode cX1_steer 89 = .ok (.ireturn, 1) := by decide +kernel
theorem dX1_steer_90 : decode cX1_steer 90 = .ok (.aload_n 0, 1) := by decide +kernel
theorem dX1_steer_91 : decode cX1_steer 91 = .ok (.getfield 9, 3) := by decide +kernel
theorem dX1_steer_94 : decode cX1_steer 94 = .ok (.aload_n 1, 1) := by decide +kernel
theorem dX1_steer_95 : decode cX1_steer 95 = .ok (.getfield 130, 3) := by decide +kernel
theorem dX1_steer_98 : decode cX1_steer 98 = .ok (.invokevirtual 243, 3) := by decide +kernel
theorem dX1_steer_101 : decode cX1_steer 101 = .ok (.istore_n 2, 1) := by decide +kernel
theorem dX1_steer_102 : decode cX1_steer 102 = .ok (.iload_n 2, 1) := by decide +kernel
theorem dX1_steer_103 : decode cX1_steer 103 = .ok (.iconst (-1), 1) := by decide +kernel
theorem dX1_steer_104 : decode cX1_steer 104 = .ok (.if_icmp .ne 9, 3) := by decide +kernel
theorem dX1_steer_107 : decode cX1_steer 107 = .ok (.aload_n 0, 1) := by decide +kernel
theorem dX1_steer_108 : decode cX1_steer 108 = .ok (.bipush 6, 2) := by decide +kernel
theorem dX1_steer_110 : decode cX1_steer 110 = .ok (.putfield 65, 3) := by decide +kernel
theorem dX1_steer_113 : decode cX1_steer 113 = .ok (.aload_n 1, 1) := by decide +kernel
theorem dX1_steer_114 : decode cX1_steer 114 = .ok (.getfield 125, 3) := by decide +kernel
theorem dX1_steer_117 : decode cX1_steer 117 = .ok (.bipush 84, 2) := by decide +kernel
theorem dX1_steer_119 : decode cX1_steer 119 = .ok (.if_icmp .ne 11, 3) := by decide +kernel
theorem dX1_steer_122 : decode cX1_steer 122 = .ok (.aload_n 0, 1) := by decide +kernel
theorem dX1_steer_123 : decode cX1_steer 123 = .ok (.getfield 30, 3) := by decide +kernel
theorem dX1_steer_126 : decode cX1_steer 126 = .ok (.iconst 0, 1) := by decide +kernel
theorem dX1_steer_127 : decode cX1_steer 127 = .ok (.putfield 151, 3) := by decide +kernel
theorem dX1_steer_130 : decode cX1_steer 130 = .ok (.iload_n 2, 1) := by decide +kernel
theorem dX1_steer_131 : decode cX1_steer 131 = .ok (.ireturn, 1) := by decide +kernel
theorem dX1_putRest_0 : decode cX1_putRest 0 = .ok (.aload_n 0, 1) := by decide +kernel
theorem dX1_putRest_1 : decode cX1_putRest 1 = .ok (.getfield 115, 3) := by decide +kernel
theorem dX1_putRest_4 : decode cX1_putRest 4 = .ok (.iconst 1, 1) := by decide +kernel
theorem dX1_putRest_5 : decode cX1_putRest 5 = .ok (.iadd, 1) := by decide +kernel
theorem dX1_putRest_6 : decode cX1_putRest 6 = .ok (.istore_n 1, 1) := by decide +kernel
theorem dX1_putRest_7 : decode cX1_putRest 7 = .ok (.iload_n 1, 1) := by decide +kernel
theorem dX1_putRest_8 : decode cX1_putRest 8 = .ok (.aload_n 0, 1) := by decide +kernel
theorem dX1_putRest_9 : decode cX1_putRest 9 = .ok (.getfield 15, 3) := by decide +kernel
theorem dX1_putRest_12 : decode cX1_putRest 12 = .ok (.getfield 96, 3) := by decide +kernel
theorem dX1_putRest_15 : decode cX1_putRest 15 = .ok (.getfield 99, 3) := by decide +kernel
theorem dX1_putRest_18 : decode cX1_putRest 18 = .ok (.if_icmp .gt 47, 3) := by decide +kernel
theorem dX1_putRest_21 : decode cX1_putRest 21 = .ok (.aload_n 0, 1) := by decide +kernel
theorem dX1_putRest_22 : decode cX1_putRest 22 = .ok (.getfield 65, 3) := by decide +kernel
theorem dX1_putRest_25 : decode cX1_putRest 25 = .ok (.ifCond .ne 40, 3) := by decide +kernel
theorem dX1_putRest_28 : decode cX1_putRest 28 = .ok (.aload_n 0, 1) := by decide +kernel
theorem dX1_putRest_29 : decode cX1_putRest 29 = .ok (.getfield 37, 3) := by decide +kernel
theorem dX1_putRest_32 : decode cX1_putRest 32 = .ok (.aload_n 0, 1) := by decide +kernel
theorem dX1_putRest_33 : decode cX1_putRest 33 = .ok (.getfield 15, 3) := by decide +kernel
theorem dX1_putRest_36 : decode cX1_putRest 36 = .ok (.getfield 96, 3) := by decide +kernel
theorem dX1_putRest_39 : decode cX1_putRest 39 = .ok (.iload_n 1, 1) := by decide +kernel
theorem dX1_putRest_40 : decode cX1_putRest 40 = .ok (.aload_n 0, 1) := by decide +kernel
theorem dX1_putRest_41 : decode cX1_putRest 41 = .ok (.getfield 15, 3) := by decide +kernel
theorem dX1_putRest_44 : decode cX1_putRest 44 = .ok (.iload_n 1, 1) := by decide +kernel
theorem dX1_putRest_45 : decode cX1_putRest 45 = .ok (.invokevirtual 138, 3) := by decide +kernel
theorem dX1_putRest_48 : decode cX1_putRest 48 = .ok (.invokevirtual 156, 3) := by decide +kernel
theorem dX1_putRest_51 : decode cX1_putRest 51 = .ok (.ifCond .ne 8, 3) := by decide +kernel
theorem dX1_putRest_54 : decode cX1_putRest 54 = .ok (.aload_n 0, 1) := by decide +kernel
theorem dX1_putRest_55 : decode cX1_putRest 55 = .ok (.iconst 4, 1) := by decide +kernel
theorem dX1_putRest_56 : decode cX1_putRest 56 = .ok (.putfield 65, 3) := by decide +kernel
theorem dX1_putRest_59 : decode cX1_putRest 59 = .ok (.iinc 1 1, 3) := by decide +kernel
theorem dX1_putRest_62 : decode cX1_putRest 62 = .ok (.goto (-55), 3) := by decide +kernel
theorem dX1_putRest_65 : decode cX1_putRest 65 = .ok (.return_, 1) := by decide +kernel
theorem dX1_doOne_0 : decode cX1_doOne 0 = .ok (.aload_n 1, 1) := by decide +kernel
theorem dX1_doOne_1 : decode cX1_doOne 1 = .ok (.getfield 125, 3) := by decide +kernel
theorem dX1_doOne_4 : decode cX1_doOne 4 = .ok (.lookupswitch 311 #[(60, 116), (62, 116), (97, 137), (99, 183), (100, 225), (101, 304), (105, 160), (106, 243), (114, 286), (115, 116), (117, 250), (118, 232), (122, 116)], 116) := by decide +kernel
theorem dX1_doOne_120 : decode cX1_doOne 120 = .ok (.aload_n 0, 1) := by decide +kernel
theorem dX1_doOne_121 : decode cX1_doOne 121 = .ok (.aload_n 0, 1) := by decide +kernel
theorem dX1_doOne_122 : decode cX1_doOne 122 = .ok (.getfield 30, 3) := by decide +kernel
theorem dX1_doOne_125 : decode cX1_doOne 125 = .ok (.aload_n 1, 1) := by decide +kernel
theorem dX1_doOne_126 : decode cX1_doOne 126 = .ok (.aload_n 0, 1) := by decide +kernel
theorem dX1_doOne_127 : decode cX1_doOne 127 = .ok (.getfield 45, 3) := by decide +kernel
theorem dX1_doOne_130 : decode cX1_doOne 130 = .ok (.iconst 1, 1) := by decide +kernel
theorem dX1_doOne_131 : decode cX1_doOne 131 = .ok (.iconst 1, 1) := by decide +kernel
theorem dX1_doOne_132 : decode cX1_doOne 132 = .ok (.invokevirtual 246, 3) := by decide +kernel
theorem dX1_doOne_135 : decode cX1_doOne 135 = .ok (.putfield 65, 3) := by decide +kernel
theorem dX1_doOne_138 : decode cX1_doOne 138 = .ok (.goto 182, 3) := by decide +kernel
theorem dX1_doOne_141 : decode cX1_doOne 141 = .ok (.aload_n 0, 1) := by decide +kernel
theorem dX1_doOne_142 : decode cX1_doOne 142 = .ok (.getfield 9, 3) := by decide +kernel
theorem dX1_doOne_145 : decode cX1_doOne 145 = .ok (.aload_n 1, 1) := by decide +kernel
theorem dX1_doOne_146 : decode cX1_doOne 146 = .ok (.aload_n 0, 1) := by decide +kernel
theorem dX1_doOne_147 : decode cX1_doOne 147 = .ok (.getfield 52, 3) := by decide +kernel
theorem dX1_doOne_150 : decode cX1_doOne 150 = .ok (.invokevirtual 250, 3) := by decide +kernel
theorem dX1_doOne_153 : decode cX1_doOne 153 = .ok (.aload_n 0, 1) := by decide +kernel
theorem dX1_doOne_154 : decode cX1_doOne 154 = .ok (.aload_n 0, 1) := by decide +kernel
theorem dX1_doOne_155 : decode cX1_doOne 155 = .ok (.getfield 52, 3) := by decide +kernel
theorem dX1_doOne_158 : decode cX1_doOne 158 = .ok (.invokevirtual 254, 3) := by decide +kernel
theorem dX1_doOne_161 : decode cX1_doOne 161 = .ok (.goto 159, 3) := by decide +kernel
theorem dX1_doOne_164 : decode cX1_doOne 164 = .ok (.aload_n 0, 1) := by decide +kernel
theorem dX1_doOne_165 : decode cX1_doOne 165 = .ok (.getfield 9, 3) := by decide +kernel
theorem dX1_doOne_168 : decode cX1_doOne 168 = .ok (.aload_n 1, 1) := by decide +kernel
theorem dX1_doOne_169 : decode cX1_doOne 169 = .ok (.aload_n 0, 1) := by decide +kernel
theorem dX1_doOne_170 : decode cX1_doOne 170 = .ok (.getfield 52, 3) := by decide +kernel
theorem dX1_doOne_173 : decode cX1_doOne 173 = .ok (.invokevirtual 250, 3) := by decide +kernel
theorem dX1_doOne_176 : decode cX1_doOne 176 = .ok (.aload_n 0, 1) := by decide +kernel
theorem dX1_doOne_177 : decode cX1_doOne 177 = .ok (.aload_n 0, 1) := by decide +kernel
theorem dX1_doOne_178 : decode cX1_doOne 178 = .ok (.getfield 52, 3) := by decide +kernel
theorem dX1_doOne_181 : decode cX1_doOne 181 = .ok (.invokevirtual 160, 3) := by decide +kernel
theorem dX1_doOne_184 : decode cX1_doOne 184 = .ok (.goto 136, 3) := by decide +kernel
theorem dX1_doOne_187 : decode cX1_doOne 187 = .ok (.aload_n 0, 1) := by decide +kernel
theorem dX1_doOne_188 : decode cX1_doOne 188 = .ok (.invokevirtual 257, 3) := by decide +kernel
theorem dX1_doOne_191 : decode cX1_doOne 191 = .ok (.aload_n 0, 1) := by decide +kernel
theorem dX1_doOne_192 : decode cX1_doOne 192 = .ok (.getfield 9, 3) := by decide +kernel
theorem dX1_doOne_195 : decode cX1_doOne 195 = .ok (.aload_n 1, 1) := by decide +kernel
theorem dX1_doOne_196 : decode cX1_doOne 196 = .ok (.aload_n 0, 1) := by decide +kernel
theorem dX1_doOne_197 : decode cX1_doOne 197 = .ok (.getfield 52, 3) := by decide +kernel
theorem dX1_doOne_200 : decode cX1_doOne 200 = .ok (.invokevirtual 250, 3) := by decide +kernel
theorem dX1_doOne_203 : decode cX1_doOne 203 = .ok (.aload_n 1, 1) := by decide +kernel
theorem dX1_doOne_204 : decode cX1_doOne 204 = .ok (.getfield 196, 3) := by decide +kernel
theorem dX1_doOne_207 : decode cX1_doOne 207 = .ok (.iconst 3, 1) := by decide +kernel
theorem dX1_doOne_208 : decode cX1_doOne 208 = .ok (.if_icmp .ne 10, 3) := by decide +kernel
theorem dX1_doOne_211 : decode cX1_doOne 211 = .ok (.aload_n 1, 1) := by decide +kernel
theorem dX1_doOne_212 : decode cX1_doOne 212 = .ok (.getfield 228, 3) := by decide +kernel
theorem dX1_doOne_215 : decode cX1_doOne 215 = .ok (.ifCond .eq 105, 3) := by decide +kernel
theorem dX1_doOne_218 : decode cX1_doOne 218 = .ok (.aload_n 0, 1) := by decide +kernel
theorem dX1_doOne_219 : decode cX1_doOne 219 = .ok (.aload_n 0, 1) := by decide +kernel
theorem dX1_doOne_220 : decode cX1_doOne 220 = .ok (.getfield 52, 3) := by decide +kernel
theorem dX1_doOne_223 : decode cX1_doOne 223 = .ok (.invokevirtual 160, 3) := by decide +kernel
theorem dX1_doOne_226 : decode cX1_doOne 226 = .ok (.goto 94, 3) := by decide +kernel
theorem dX1_doOne_229 : decode cX1_doOne 229 = .ok (.aload_n 0, 1) := by decide +kernel
theorem dX1_doOne_230 : decode cX1_doOne 230 = .ok (.invokevirtual 257, 3) := by decide +kernel
theorem dX1_doOne_233 : decode cX1_doOne 233 = .ok (.goto 87, 3) := by decide +kernel
theorem dX1_doOne_236 : decode cX1_doOne 236 = .ok (.aload_n 0, 1) := by decide +kernel
theorem dX1_doOne_237 : decode cX1_doOne 237 = .ok (.aload_n 1, 1) := by decide +kernel
theorem dX1_doOne_238 : decode cX1_doOne 238 = .ok (.getfield 130, 3) := by decide +kernel
theorem dX1_doOne_241 : decode cX1_doOne 241 = .ok (.invokevirtual 260, 3) := by decide +kernel
theorem dX1_doOne_244 : decode cX1_doOne 244 = .ok (.goto 76, 3) := by decide +kernel
theorem dX1_doOne_247 : decode cX1_doOne 247 = .ok (.aload_n 0, 1) := by decide +kernel
theorem dX1_doOne_248 : decode cX1_doOne 248 = .ok (.invokevirtual 263, 3) := by decide +kernel
theorem dX1_doOne_251 : decode cX1_doOne 251 = .ok (.goto 69, 3) := by decide +kernel
theorem dX1_doOne_254 : decode cX1_doOne 254 = .ok (.aload_n 0, 1) := by decide +kernel
theorem dX1_doOne_255 : decode cX1_doOne 255 = .ok (.aload_n 0, 1) := by decide +kernel
theorem dX1_doOne_256 : decode cX1_doOne 256 = .ok (.getfield 19, 3) := by decide +kernel
theorem dX1_doOne_259 : decode cX1_doOne 259 = .ok (.getfield 266, 3) := by decide +kernel
theorem dX1_doOne_262 : decode cX1_doOne 262 = .ok (.getfield 99, 3) := by decide +kernel
theorem dX1_doOne_265 : decode cX1_doOne 265 = .ok (.ifCond .ne 7, 3) := by decide +kernel
theorem dX1_doOne_268 : decode cX1_doOne 268 = .ok (.iconst 5, 1) := by decide +kernel
theorem dX1_doOne_269 : decode cX1_doOne 269 = .ok (.goto 4, 3) := by decide +kernel
theorem dX1_doOne_272 : decode cX1_doOne 272 = .ok (.iconst 0, 1) := by decide +kernel
theorem dX1_doOne_273 : decode cX1_doOne 273 = .ok (.putfield 65, 3) := by decide +kernel
theorem dX1_doOne_276 : decode cX1_doOne 276 = .ok (.aload_n 0, 1) := by decide +kernel
theorem dX1_doOne_277 : decode cX1_doOne 277 = .ok (.aload_n 0, 1) := by decide +kernel
theorem dX1_doOne_278 : decode cX1_doOne 278 = .ok (.getfield 19, 3) := by decide +kernel
theorem dX1_doOne_281 : decode cX1_doOne 281 = .ok (.getfield 266, 3) := by decide +kernel
theorem dX1_doOne_284 : decode cX1_doOne 284 = .ok (.invokevirtual 254, 3) := by decide +kernel
theorem dX1_doOne_287 : decode cX1_doOne 287 = .ok (.goto 33, 3) := by decide +kernel
theorem dX1_doOne_290 : decode cX1_doOne 290 = .ok (.aload_n 0, 1) := by decide +kernel
theorem dX1_doOne_291 : decode cX1_doOne 291 = .ok (.aload_n 0, 1) := by decide +kernel
theorem dX1_doOne_292 : decode cX1_doOne 292 = .ok (.getfield 19, 3) := by decide +kernel
theorem dX1_doOne_295 : decode cX1_doOne 295 = .ok (.aload_n 1, 1) := by decide +kernel
theorem dX1_doOne_296 : decode cX1_doOne 296 = .ok (.getfield 130, 3) := by decide +kernel
theorem dX1_doOne_299 : decode cX1_doOne 299 = .ok (.invokevirtual 133, 3) := by decide +kernel
theorem dX1_doOne_302 : decode cX1_doOne 302 = .ok (.invokevirtual 254, 3) := by decide +kernel
theorem dX1_doOne_305 : decode cX1_doOne 305 = .ok (.goto 15, 3) := by decide +kernel
theorem dX1_doOne_308 : decode cX1_doOne 308 = .ok (.aload_n 0, 1) := by decide +kernel
theorem dX1_doOne_309 : decode cX1_doOne 309 = .ok (.invokevirtual 269, 3) := by decide +kernel
theorem dX1_doOne_312 : decode cX1_doOne 312 = .ok (.goto 8, 3) := by decide +kernel
theorem dX1_doOne_315 : decode cX1_doOne 315 = .ok (.aload_n 0, 1) := by decide +kernel
theorem dX1_doOne_316 : decode cX1_doOne 316 = .ok (.aload_n 1, 1) := by decide +kernel
theorem dX1_doOne_317 : decode cX1_doOne 317 = .ok (.invokevirtual 272, 3) := by decide +kernel
theorem dX1_doOne_320 : decode cX1_doOne 320 = .ok (.return_, 1) := by decide +kernel
theorem dX1_goAway_0 : decode cX1_goAway 0 = .ok (.aload_n 0, 1) := by decide +kernel
theorem dX1_goAway_1 : decode cX1_goAway 1 = .ok (.iconst 1, 1) := by decide +kernel
theorem dX1_goAway_2 : decode cX1_goAway 2 = .ok (.putfield 148, 3) := by decide +kernel
theorem dX1_goAway_5 : decode cX1_goAway 5 = .ok (.aload_n 0, 1) := by decide +kernel
theorem dX1_goAway_6 : decode cX1_goAway 6 = .ok (.getfield 37, 3) := by decide +kernel
theorem dX1_goAway_9 : decode cX1_goAway 9 = .ok (.aload_n 0, 1) := by decide +kernel
theorem dX1_goAway_10 : decode cX1_goAway 10 = .ok (.getfield 141, 3) := by decide +kernel
theorem dX1_goAway_13 : decode cX1_goAway 13 = .ok (.invokevirtual 275, 3) := by decide +kernel
theorem dX1_goAway_16 : decode cX1_goAway 16 = .ok (.return_, 1) := by decide +kernel
theorem dX1_putDue_0 : decode cX1_putDue 0 = .ok (.iconst 1, 1) := by decide +kernel
theorem dX1_putDue_1 : decode cX1_putDue 1 = .ok (.istore_n 2, 1) := by decide +kernel
theorem dX1_putDue_2 : decode cX1_putDue 2 = .ok (.aload_n 1, 1) := by decide +kernel
theorem dX1_putDue_3 : decode cX1_putDue 3 = .ok (.ifnull 27, 3) := by decide +kernel
theorem dX1_putDue_6 : decode cX1_putDue 6 = .ok (.iload_n 2, 1) := by decide +kernel
theorem dX1_putDue_7 : decode cX1_putDue 7 = .ok (.aload_n 1, 1) := by decide +kernel
theorem dX1_putDue_8 : decode cX1_putDue 8 = .ok (.getfield 99, 3) := by decide +kernel
theorem dX1_putDue_11 : decode cX1_putDue 11 = .ok (.if_icmp .gt 19, 3) := by decide +kernel
theorem dX1_putDue_14 : decode cX1_putDue 14 = .ok (.aload_n 0, 1) := by decide +kernel
theorem dX1_putDue_15 : decode cX1_putDue 15 = .ok (.getfield 49, 3) := by decide +kernel
theorem dX1_putDue_18 : decode cX1_putDue 18 = .ok (.aload_n 1, 1) := by decide +kernel
theorem dX1_putDue_19 : decode cX1_putDue 19 = .ok (.iload_n 2, 1) := by decide +kernel
theorem dX1_putDue_20 : decode cX1_putDue 20 = .ok (.invokevirtual 144, 3) := by decide +kernel
theorem dX1_putDue_23 : decode cX1_putDue 23 = .ok (.pop, 1) := by decide +kernel
theorem dX1_putDue_24 : decode cX1_putDue 24 = .ok (.iinc 2 1, 3) := by decide +kernel
theorem dX1_putDue_27 : decode cX1_putDue 27 = .ok (.goto (-25), 3) := by decide +kernel
theorem dX1_putDue_30 : decode cX1_putDue 30 = .ok (.return_, 1) := by decide +kernel
theorem dX1_part_0 : decode cX1_part 0 = .ok (.aload_n 0, 1) := by decide +kernel
theorem dX1_part_1 : decode cX1_part 1 = .ok (.getfield 45, 3) := by decide +kernel
theorem dX1_part_4 : decode cX1_part 4 = .ok (.iconst 1, 1) := by decide +kernel
theorem dX1_part_5 : decode cX1_part 5 = .ok (.invokevirtual 278, 3) := by decide +kernel
theorem dX1_part_8 : decode cX1_part 8 = .ok (.iload_n 1, 1) := by decide +kernel
theorem dX1_part_9 : decode cX1_part 9 = .ok (.if_icmp .gt 4, 3) := by decide +kernel
theorem dX1_part_12 : decode cX1_part 12 = .ok (.return_, 1) := by decide +kernel
theorem dX1_part_13 : decode cX1_part 13 = .ok (.aload_n 0, 1) := by decide +kernel
theorem dX1_part_14 : decode cX1_part 14 = .ok (.getfield 52, 3) := by decide +kernel
theorem dX1_part_17 : decode cX1_part 17 = .ok (.iconst 0, 1) := by decide +kernel
theorem dX1_part_18 : decode cX1_part 18 = .ok (.invokevirtual 112, 3) := by decide +kernel
theorem dX1_part_21 : decode cX1_part 21 = .ok (.aload_n 0, 1) := by decide +kernel
theorem dX1_part_22 : decode cX1_part 22 = .ok (.getfield 52, 3) := by decide +kernel
theorem dX1_part_25 : decode cX1_part 25 = .ok (.aload_n 0, 1) := by decide +kernel
theorem dX1_part_26 : decode cX1_part 26 = .ok (.getfield 45, 3) := by decide +kernel
theorem dX1_part_29 : decode cX1_part 29 = .ok (.iconst 1, 1) := by decide +kernel
theorem dX1_part_30 : decode cX1_part 30 = .ok (.invokevirtual 144, 3) := by decide +kernel
theorem dX1_part_33 : decode cX1_part 33 = .ok (.pop, 1) := by decide +kernel
theorem dX1_part_34 : decode cX1_part 34 = .ok (.aload_n 0, 1) := by decide +kernel
theorem dX1_part_35 : decode cX1_part 35 = .ok (.getfield 52, 3) := by decide +kernel
theorem dX1_part_38 : decode cX1_part 38 = .ok (.iconst 2, 1) := by decide +kernel
theorem dX1_part_39 : decode cX1_part 39 = .ok (.iconst 1, 1) := by decide +kernel
theorem dX1_part_40 : decode cX1_part 40 = .ok (.invokevirtual 281, 3) := by decide +kernel
theorem dX1_part_43 : decode cX1_part 43 = .ok (.pop, 1) := by decide +kernel
theorem dX1_part_44 : decode cX1_part 44 = .ok (.aload_n 0, 1) := by decide +kernel
theorem dX1_part_45 : decode cX1_part 45 = .ok (.getfield 52, 3) := by decide +kernel
theorem dX1_part_48 : decode cX1_part 48 = .ok (.iconst 1, 1) := by decide +kernel
theorem dX1_part_49 : decode cX1_part 49 = .ok (.iload_n 1, 1) := by decide +kernel
theorem dX1_part_50 : decode cX1_part 50 = .ok (.invokevirtual 285, 3) := by decide +kernel
theorem dX1_part_53 : decode cX1_part 53 = .ok (.aload_n 0, 1) := by decide +kernel
theorem dX1_part_54 : decode cX1_part 54 = .ok (.getfield 49, 3) := by decide +kernel
theorem dX1_part_57 : decode cX1_part 57 = .ok (.aload_n 0, 1) := by decide +kernel
theorem dX1_part_58 : decode cX1_part 58 = .ok (.getfield 52, 3) := by decide +kernel
theorem dX1_part_61 : decode cX1_part 61 = .ok (.iconst 2, 1) := by decide +kernel
theorem dX1_part_62 : decode cX1_part 62 = .ok (.invokevirtual 144, 3) := by decide +kernel
theorem dX1_part_65 : decode cX1_part 65 = .ok (.pop, 1) := by decide +kernel
theorem dX1_part_66 : decode cX1_part 66 = .ok (.aload_n 0, 1) := by decide +kernel
theorem dX1_part_67 : decode cX1_part 67 = .ok (.getfield 45, 3) := by decide +kernel
theorem dX1_part_70 : decode cX1_part 70 = .ok (.iconst 1, 1) := by decide +kernel
theorem dX1_part_71 : decode cX1_part 71 = .ok (.iload_n 1, 1) := by decide +kernel
theorem dX1_part_72 : decode cX1_part 72 = .ok (.invokevirtual 289, 3) := by decide +kernel
theorem dX1_part_75 : decode cX1_part 75 = .ok (.return_, 1) := by decide +kernel
theorem dX1_join_0 : decode cX1_join 0 = .ok (.aload_n 0, 1) := by decide +kernel
theorem dX1_join_1 : decode cX1_join 1 = .ok (.getfield 115, 3) := by decide +kernel
theorem dX1_join_4 : decode cX1_join 4 = .ok (.aload_n 0, 1) := by decide +kernel
theorem dX1_join_5 : decode cX1_join 5 = .ok (.getfield 15, 3) := by decide +kernel
theorem dX1_join_8 : decode cX1_join 8 = .ok (.getfield 96, 3) := by decide +kernel
theorem dX1_join_11 : decode cX1_join 11 = .ok (.getfield 99, 3) := by decide +kernel
theorem dX1_join_14 : decode cX1_join 14 = .ok (.if_icmp .lt 4, 3) := by decide +kernel
theorem dX1_join_17 : decode cX1_join 17 = .ok (.return_, 1) := by decide +kernel
theorem dX1_join_18 : decode cX1_join 18 = .ok (.aload_n 0, 1) := by decide +kernel
theorem dX1_join_19 : decode cX1_join 19 = .ok (.getfield 45, 3) := by decide +kernel
theorem dX1_join_22 : decode cX1_join 22 = .ok (.iconst 1, 1) := by decide +kernel
theorem dX1_join_23 : decode cX1_join 23 = .ok (.aload_n 0, 1) := by decide +kernel
theorem dX1_join_24 : decode cX1_join 24 = .ok (.getfield 15, 3) := by decide +kernel
theorem dX1_join_27 : decode cX1_join 27 = .ok (.getfield 96, 3) := by decide +kernel
theorem dX1_join_30 : decode cX1_join 30 = .ok (.aload_n 0, 1) := by decide +kernel
theorem dX1_join_31 : decode cX1_join 31 = .ok (.getfield 115, 3) := by decide +kernel
theorem dX1_join_34 : decode cX1_join 34 = .ok (.iconst 1, 1) := by decide +kernel
theorem dX1_join_35 : decode cX1_join 35 = .ok (.iadd, 1) := by decide +kernel
theorem dX1_join_36 : decode cX1_join 36 = .ok (.invokevirtual 292, 3) := by decide +kernel
theorem dX1_join_39 : decode cX1_join 39 = .ok (.ifCond .ne 9, 3) := by decide +kernel
theorem dX1_join_42 : decode cX1_join 42 = .ok (.aload_n 0, 1) := by decide +kernel
theorem dX1_join_43 : decode cX1_join 43 = .ok (.iconst 4, 1) := by decide +kernel
theorem dX1_join_44 : decode cX1_join 44 = .ok (.putfield 65, 3) := by decide +kernel
theorem dX1_join_47 : decode cX1_join 47 = .ok (.return_, 1) := by decide +kernel
theorem dX1_join_48 : decode cX1_join 48 = .ok (.aload_n 0, 1) := by decide +kernel
theorem dX1_join_49 : decode cX1_join 49 = .ok (.dup, 1) := by decide +kernel
theorem dX1_join_50 : decode cX1_join 50 = .ok (.getfield 115, 3) := by decide +kernel
theorem dX1_join_53 : decode cX1_join 53 = .ok (.iconst 1, 1) := by decide +kernel
theorem dX1_join_54 : decode cX1_join 54 = .ok (.iadd, 1) := by decide +kernel
theorem dX1_join_55 : decode cX1_join 55 = .ok (.putfield 115, 3) := by decide +kernel
theorem dX1_join_58 : decode cX1_join 58 = .ok (.aload_n 0, 1) := by decide +kernel
theorem dX1_join_59 : decode cX1_join 59 = .ok (.aload_n 0, 1) := by decide +kernel
theorem dX1_join_60 : decode cX1_join 60 = .ok (.getfield 115, 3) := by decide +kernel
theorem dX1_join_63 : decode cX1_join 63 = .ok (.putfield 137, 3) := by decide +kernel
theorem dX1_join_66 : decode cX1_join 66 = .ok (.aload_n 0, 1) := by decide +kernel
theorem dX1_join_67 : decode cX1_join 67 = .ok (.getfield 37, 3) := by decide +kernel
theorem dX1_join_70 : decode cX1_join 70 = .ok (.aload_n 0, 1) := by decide +kernel
theorem dX1_join_71 : decode cX1_join 71 = .ok (.getfield 15, 3) := by decide +kernel
theorem dX1_join_74 : decode cX1_join 74 = .ok (.aload_n 0, 1) := by decide +kernel
theorem dX1_join_75 : decode cX1_join 75 = .ok (.getfield 115, 3) := by decide +kernel
theorem dX1_join_78 : decode cX1_join 78 = .ok (.invokevirtual 138, 3) := by decide +kernel
theorem dX1_join_81 : decode cX1_join 81 = .ok (.invokevirtual 275, 3) := by decide +kernel
theorem dX1_join_84 : decode cX1_join 84 = .ok (.return_, 1) := by decide +kernel
theorem dX1_exchange_0 : decode cX1_exchange 0 = .ok (.aload_n 0, 1) := by decide +kernel
theorem dX1_exchange_1 : decode cX1_exchange 1 = .ok (.getfield 19, 3) := by decide +kernel
theorem dX1_exchange_4 : decode cX1_exchange 4 = .ok (.getfield 266, 3) := by decide +kernel
theorem dX1_exchange_7 : decode cX1_exchange 7 = .ok (.getfield 99, 3) := by decide +kernel
theorem dX1_exchange_10 : decode cX1_exchange 10 = .ok (.iconst 1, 1) := by decide +kernel
theorem dX1_exchange_11 : decode cX1_exchange 11 = .ok (.if_icmp .eq 9, 3) := by decide +kernel
theorem dX1_exchange_14 : decode cX1_exchange 14 = .ok (.aload_n 0, 1) := by decide +kernel
theorem dX1_exchange_15 : decode cX1_exchange 15 = .ok (.iconst 5, 1) := by decide +kernel
theorem dX1_exchange_16 : decode cX1_exchange 16 = .ok (.putfield 65, 3) := by decide +kernel
theorem dX1_exchange_19 : decode cX1_exchange 19 = .ok (.return_, 1) := by decide +kernel
theorem dX1_exchange_20 : decode cX1_exchange 20 = .ok (.aload_n 0, 1) := by decide +kernel
theorem dX1_exchange_21 : decode cX1_exchange 21 = .ok (.getfield 52, 3) := by decide +kernel
theorem dX1_exchange_24 : decode cX1_exchange 24 = .ok (.aload_n 0, 1) := by decide +kernel
theorem dX1_exchange_25 : decode cX1_exchange 25 = .ok (.getfield 45, 3) := by decide +kernel
theorem dX1_exchange_28 : decode cX1_exchange 28 = .ok (.invokevirtual 296, 3) := by decide +kernel
theorem dX1_exchange_31 : decode cX1_exchange 31 = .ok (.aload_n 0, 1) := by decide +kernel
theorem dX1_exchange_32 : decode cX1_exchange 32 = .ok (.getfield 45, 3) := by decide +kernel
theorem dX1_exchange_35 : decode cX1_exchange 35 = .ok (.iconst 1, 1) := by decide +kernel
theorem dX1_exchange_36 : decode cX1_exchange 36 = .ok (.aload_n 0, 1) := by decide +kernel
theorem dX1_exchange_37 : decode cX1_exchange 37 = .ok (.getfield 19, 3) := by decide +kernel
theorem dX1_exchange_40 : decode cX1_exchange 40 = .ok (.getfield 266, 3) := by decide +kernel
theorem dX1_exchange_43 : decode cX1_exchange 43 = .ok (.iconst 1, 1) := by decide +kernel
theorem dX1_exchange_44 : decode cX1_exchange 44 = .ok (.invokevirtual 298, 3) := by decide +kernel
theorem dX1_exchange_47 : decode cX1_exchange 47 = .ok (.aload_n 0, 1) := by decide +kernel
theorem dX1_exchange_48 : decode cX1_exchange 48 = .ok (.getfield 19, 3) := by decide +kernel
theorem dX1_exchange_51 : decode cX1_exchange 51 = .ok (.getfield 266, 3) := by decide +kernel
theorem dX1_exchange_54 : decode cX1_exchange 54 = .ok (.iconst 1, 1) := by decide +kernel
theorem dX1_exchange_55 : decode cX1_exchange 55 = .ok (.aload_n 0, 1) := by decide +kernel
theorem dX1_exchange_56 : decode cX1_exchange 56 = .ok (.getfield 52, 3) := by decide +kernel
theorem dX1_exchange_59 : decode cX1_exchange 59 = .ok (.iconst 1, 1) := by decide +kernel
theorem dX1_exchange_60 : decode cX1_exchange 60 = .ok (.invokevirtual 298, 3) := by decide +kernel
theorem dX1_exchange_63 : decode cX1_exchange 63 = .ok (.return_, 1) := by decide +kernel
theorem dX1_tell_0 : decode cX1_tell 0 = .ok (.aload_n 1, 1) := by decide +kernel
theorem dX1_tell_1 : decode cX1_tell 1 = .ok (.getfield 125, 3) := by decide +kernel
theorem dX1_tell_4 : decode cX1_tell 4 = .ok (.lookupswitch 177 #[(61, 105), (72, 139), (104, 123), (107, 159), (110, 81), (112, 60)], 60) := by decide +kernel
theorem dX1_tell_64 : decode cX1_tell 64 = .ok (.aload_n 0, 1) := by decide +kernel
theorem dX1_tell_65 : decode cX1_tell 65 = .ok (.aload_n 0, 1) := by decide +kernel
theorem dX1_tell_66 : decode cX1_tell 66 = .ok (.getfield 19, 3) := by decide +kernel
theorem dX1_tell_69 : decode cX1_tell 69 = .ok (.aload_n 0, 1) := by decide +kernel
theorem dX1_tell_70 : decode cX1_tell 70 = .ok (.getfield 45, 3) := by decide +kernel
theorem dX1_tell_73 : decode cX1_tell 73 = .ok (.iconst 1, 1) := by decide +kernel
theorem dX1_tell_74 : decode cX1_tell 74 = .ok (.iconst 1, 1) := by decide +kernel
theorem dX1_tell_75 : decode cX1_tell 75 = .ok (.iconst (-1), 1) := by decide +kernel
theorem dX1_tell_76 : decode cX1_tell 76 = .ok (.invokevirtual 302, 3) := by decide +kernel
theorem dX1_tell_79 : decode cX1_tell 79 = .ok (.putfield 65, 3) := by decide +kernel
theorem dX1_tell_82 : decode cX1_tell 82 = .ok (.goto 114, 3) := by decide +kernel
theorem dX1_tell_85 : decode cX1_tell 85 = .ok (.aload_n 0, 1) := by decide +kernel
theorem dX1_tell_86 : decode cX1_tell 86 = .ok (.aload_n 0, 1) := by decide +kernel
theorem dX1_tell_87 : decode cX1_tell 87 = .ok (.getfield 19, 3) := by decide +kernel
theorem dX1_tell_90 : decode cX1_tell 90 = .ok (.aload_n 0, 1) := by decide +kernel
theorem dX1_tell_91 : decode cX1_tell 91 = .ok (.getfield 45, 3) := by decide +kernel
theorem dX1_tell_94 : decode cX1_tell 94 = .ok (.iconst 1, 1) := by decide +kernel
theorem dX1_tell_95 : decode cX1_tell 95 = .ok (.iconst 1, 1) := by decide +kernel
theorem dX1_tell_96 : decode cX1_tell 96 = .ok (.aload_n 0, 1) := by decide +kernel
theorem dX1_tell_97 : decode cX1_tell 97 = .ok (.getfield 137, 3) := by decide +kernel
theorem dX1_tell_100 : decode cX1_tell 100 = .ok (.invokevirtual 302, 3) := by decide +kernel
theorem dX1_tell_103 : decode cX1_tell 103 = .ok (.putfield 65, 3) := by decide +kernel
theorem dX1_tell_106 : decode cX1_tell 106 = .ok (.goto 90, 3) := by decide +kernel
theorem dX1_tell_109 : decode cX1_tell 109 = .ok (.aload_n 0, 1) := by decide +kernel
theorem dX1_tell_110 : decode cX1_tell 110 = .ok (.aload_n 0, 1) := by decide +kernel
theorem dX1_tell_111 : decode cX1_tell 111 = .ok (.getfield 19, 3) := by decide +kernel
theorem dX1_tell_114 : decode cX1_tell 114 = .ok (.aload_n 0, 1) := by decide +kernel
theorem dX1_tell_115 : decode cX1_tell 115 = .ok (.getfield 137, 3) := by decide +kernel
theorem dX1_tell_118 : decode cX1_tell 118 = .ok (.invokevirtual 306, 3) := by decide +kernel
theorem dX1_tell_121 : decode cX1_tell 121 = .ok (.putfield 65, 3) := by decide +kernel
theorem dX1_tell_124 : decode cX1_tell 124 = .ok (.goto 72, 3) := by decide +kernel
theorem dX1_tell_127 : decode cX1_tell 127 = .ok (.aload_n 0, 1) := by decide +kernel
theorem dX1_tell_128 : decode cX1_tell 128 = .ok (.getfield 19, 3) := by decide +kernel
theorem dX1_tell_131 : decode cX1_tell 131 = .ok (.aload_n 0, 1) := by decide +kernel
theorem dX1_tell_132 : decode cX1_tell 132 = .ok (.getfield 45, 3) := by decide +kernel
theorem dX1_tell_135 : decode cX1_tell 135 = .ok (.iconst 1, 1) := by decide +kernel
theorem dX1_tell_136 : decode cX1_tell 136 = .ok (.iconst 1, 1) := by decide +kernel
theorem dX1_tell_137 : decode cX1_tell 137 = .ok (.invokevirtual 309, 3) := by decide +kernel
theorem dX1_tell_140 : decode cX1_tell 140 = .ok (.goto 56, 3) := by decide +kernel
theorem dX1_tell_143 : decode cX1_tell 143 = .ok (.aload_n 0, 1) := by decide +kernel
theorem dX1_tell_144 : decode cX1_tell 144 = .ok (.aload_n 0, 1) := by decide +kernel
theorem dX1_tell_145 : decode cX1_tell 145 = .ok (.getfield 19, 3) := by decide +kernel
theorem dX1_tell_148 : decode cX1_tell 148 = .ok (.aload_n 0, 1) := by decide +kernel
theorem dX1_tell_149 : decode cX1_tell 149 = .ok (.getfield 45, 3) := by decide +kernel
theorem dX1_tell_152 : decode cX1_tell 152 = .ok (.iconst 1, 1) := by decide +kernel
theorem dX1_tell_153 : decode cX1_tell 153 = .ok (.iconst 1, 1) := by decide +kernel
theorem dX1_tell_154 : decode cX1_tell 154 = .ok (.invokevirtual 313, 3) := by decide +kernel
theorem dX1_tell_157 : decode cX1_tell 157 = .ok (.putfield 65, 3) := by decide +kernel
theorem dX1_tell_160 : decode cX1_tell 160 = .ok (.goto 36, 3) := by decide +kernel
theorem dX1_tell_163 : decode cX1_tell 163 = .ok (.aload_n 0, 1) := by decide +kernel
theorem dX1_tell_164 : decode cX1_tell 164 = .ok (.getfield 37, 3) := by decide +kernel
theorem dX1_tell_167 : decode cX1_tell 167 = .ok (.aload_n 1, 1) := by decide +kernel
theorem dX1_tell_168 : decode cX1_tell 168 = .ok (.getfield 130, 3) := by decide +kernel
theorem dX1_tell_171 : decode cX1_tell 171 = .ok (.aload_n 0, 1) := by decide +kernel
theorem dX1_tell_172 : decode cX1_tell 172 = .ok (.getfield 141, 3) := by decide +kernel
theorem dX1_tell_175 : decode cX1_tell 175 = .ok (.invokevirtual 317, 3) := by decide +kernel
theorem dX1_tell_178 : decode cX1_tell 178 = .ok (.goto 18, 3) := by decide +kernel
theorem dX1_tell_181 : decode cX1_tell 181 = .ok (.aload_n 0, 1) := by decide +kernel
theorem dX1_tell_182 : decode cX1_tell 182 = .ok (.aload_n 0, 1) := by decide +kernel
theorem dX1_tell_183 : decode cX1_tell 183 = .ok (.getfield 19, 3) := by decide +kernel
theorem dX1_tell_186 : decode cX1_tell 186 = .ok (.aload_n 1, 1) := by decide +kernel
theorem dX1_tell_187 : decode cX1_tell 187 = .ok (.getfield 130, 3) := by decide +kernel
theorem dX1_tell_190 : decode cX1_tell 190 = .ok (.invokevirtual 133, 3) := by decide +kernel
theorem dX1_tell_193 : decode cX1_tell 193 = .ok (.invokevirtual 320, 3) := by decide +kernel
theorem dX1_tell_196 : decode cX1_tell 196 = .ok (.return_, 1) := by decide +kernel
theorem dX1_writeFile_0 : decode cX1_writeFile 0 = .ok (.aload_n 1, 1) := by decide +kernel
theorem dX1_writeFile_1 : decode cX1_writeFile 1 = .ok (.ifnull 20, 3) := by decide +kernel
theorem dX1_writeFile_4 : decode cX1_writeFile 4 = .ok (.aload_n 1, 1) := by decide +kernel
theorem dX1_writeFile_5 : decode cX1_writeFile 5 = .ok (.aload_n 0, 1) := by decide +kernel
theorem dX1_writeFile_6 : decode cX1_writeFile 6 = .ok (.getfield 45, 3) := by decide +kernel
theorem dX1_writeFile_9 : decode cX1_writeFile 9 = .ok (.iconst 1, 1) := by decide +kernel
theorem dX1_writeFile_10 : decode cX1_writeFile 10 = .ok (.invokevirtual 144, 3) := by decide +kernel
theorem dX1_writeFile_13 : decode cX1_writeFile 13 = .ok (.ifCond .ne 8, 3) := by decide +kernel
theorem dX1_writeFile_16 : decode cX1_writeFile 16 = .ok (.aload_n 0, 1) := by decide +kernel
theorem dX1_writeFile_17 : decode cX1_writeFile 17 = .ok (.iconst 4, 1) := by decide +kernel
theorem dX1_writeFile_18 : decode cX1_writeFile 18 = .ok (.putfield 65, 3) := by decide +kernel
theorem dX1_writeFile_21 : decode cX1_writeFile 21 = .ok (.return_, 1) := by decide +kernel
theorem dX2_init_0 : decode cX2_init 0 = .ok (.aload_n 0, 1) := by decide +kernel
theorem dX2_init_1 : decode cX2_init 1 = .ok (.invokespecial 3, 3) := by decide +kernel
theorem dX2_init_4 : decode cX2_init 4 = .ok (.aload_n 0, 1) := by decide +kernel
theorem dX2_init_5 : decode cX2_init 5 = .ok (.aload_n 1, 1) := by decide +kernel
theorem dX2_init_6 : decode cX2_init 6 = .ok (.putfield 9, 3) := by decide +kernel
theorem dX2_init_9 : decode cX2_init 9 = .ok (.aload_n 0, 1) := by decide +kernel
theorem dX2_init_10 : decode cX2_init 10 = .ok (.aload_n 2, 1) := by decide +kernel
theorem dX2_init_11 : decode cX2_init 11 = .ok (.putfield 15, 3) := by decide +kernel
theorem dX2_init_14 : decode cX2_init 14 = .ok (.aload_n 0, 1) := by decide +kernel
theorem dX2_init_15 : decode cX2_init 15 = .ok (.bipush 30, 2) := by decide +kernel
theorem dX2_init_17 : decode cX2_init 17 = .ok (.newarray .byte, 2) := by decide +kernel
theorem dX2_init_19 : decode cX2_init 19 = .ok (.putfield 19, 3) := by decide +kernel
theorem dX2_init_22 : decode cX2_init 22 = .ok (.return_, 1) := by decide +kernel
theorem dX2_change_0 : decode cX2_change 0 = .ok (.iload_n 3, 1) := by decide +kernel
theorem dX2_change_1 : decode cX2_change 1 = .ok (.istore 5, 2) := by decide +kernel
theorem dX2_change_3 : decode cX2_change 3 = .ok (.iload 5, 2) := by decide +kernel
theorem dX2_change_5 : decode cX2_change 5 = .ok (.iload 4, 2) := by decide +kernel
theorem dX2_change_7 : decode cX2_change 7 = .ok (.if_icmp .gt 126, 3) := by decide +kernel
theorem dX2_change_10 : decode cX2_change 10 = .ok (.aload_n 0, 1) := by decide +kernel
theorem dX2_change_11 : decode cX2_change 11 = .ok (.iconst 0, 1) := by decide +kernel
theorem dX2_change_12 : decode cX2_change 12 = .ok (.putfield 23, 3) := by decide +kernel
theorem dX2_change_15 : decode cX2_change 15 = .ok (.aload_n 0, 1) := by decide +kernel
theorem dX2_change_16 : decode cX2_change 16 = .ok (.iconst 0, 1) := by decide +kernel
theorem dX2_change_17 : decode cX2_change 17 = .ok (.putfield 27, 3) := by decide +kernel
theorem dX2_change_20 : decode cX2_change 20 = .ok (.aload_n 0, 1) := by decide +kernel
theorem dX2_change_21 : decode cX2_change 21 = .ok (.getfield 15, 3) := by decide +kernel
theorem dX2_change_24 : decode cX2_change 24 = .ok (.aload_n 2, 1) := by decide +kernel
theorem dX2_change_25 : decode cX2_change 25 = .ok (.iload 5, 2) := by decide +kernel
theorem dX2_change_27 : decode cX2_change 27 = .ok (.invokevirtual 31, 3) := by decide +kernel
theorem dX2_change_30 : decode cX2_change 30 = .ok (.aload_n 1, 1) := by decide +kernel
theorem dX2_change_31 : decode cX2_change 31 = .ok (.getfield 37, 3) := by decide +kernel
theorem dX2_change_34 : decode cX2_change 34 = .ok (.lookupswitch 61 #[(62, 50), (115, 34), (122, 42)], 34) := by decide +kernel
theorem dX2_change_68 : decode cX2_change 68 = .ok (.aload_n 0, 1) := by decide +kernel
theorem dX2_change_69 : decode cX2_change 69 = .ok (.aload_n 1, 1) := by decide +kernel
theorem dX2_change_70 : decode cX2_change 70 = .ok (.invokevirtual 42, 3) := by decide +kernel
theorem dX2_change_73 : decode cX2_change 73 = .ok (.goto 30, 3) := by decide +kernel
theorem dX2_change_76 : decode cX2_change 76 = .ok (.aload_n 0, 1) := by decide +kernel
theorem dX2_change_77 : decode cX2_change 77 = .ok (.aload_n 1, 1) := by decide +kernel
theorem dX2_change_78 : decode cX2_change 78 = .ok (.invokevirtual 46, 3) := by decide +kernel
theorem dX2_change_81 : decode cX2_change 81 = .ok (.goto 22, 3) := by decide +kernel
theorem dX2_change_84 : decode cX2_change 84 = .ok (.aload_n 0, 1) := by decide +kernel
theorem dX2_change_85 : decode cX2_change 85 = .ok (.aload_n 1, 1) := by decide +kernel
theorem dX2_change_86 : decode cX2_change 86 = .ok (.getfield 49, 3) := by decide +kernel
theorem dX2_change_89 : decode cX2_change 89 = .ok (.invokevirtual 52, 3) := by decide +kernel
theorem dX2_change_92 : decode cX2_change 92 = .ok (.goto 11, 3) := by decide +kernel
theorem dX2_change_95 : decode cX2_change 95 = .ok (.aload_n 0, 1) := by decide +kernel
theorem dX2_change_96 : decode cX2_change 96 = .ok (.aload_n 1, 1) := by decide +kernel
theorem dX2_change_97 : decode cX2_change 97 = .ok (.getfield 49, 3) := by decide +kernel
theorem dX2_change_100 : decode cX2_change 100 = .ok (.invokevirtual 56, 3) := by decide +kernel
theorem dX2_change_103 : decode cX2_change 103 = .ok (.aload_n 0, 1) := by decide +kernel
theorem dX2_change_104 : decode cX2_change 104 = .ok (.getfield 27, 3) := by decide +kernel
theorem dX2_change_107 : decode cX2_change 107 = .ok (.ifCond .eq 5, 3) := by decide +kernel
theorem dX2_change_110 : decode cX2_change 110 = .ok (.iconst 4, 1) := by decide +kernel
theorem dX2_change_111 : decode cX2_change 111 = .ok (.ireturn, 1) := by decide +kernel
theorem dX2_change_112 : decode cX2_change 112 = .ok (.aload_n 2, 1) := by decide +kernel
theorem dX2_change_113 : decode cX2_change 113 = .ok (.iload 5, 2) := by decide +kernel
theorem dX2_change_115 : decode cX2_change 115 = .ok (.aload_n 0, 1) := by decide +kernel
theorem dX2_change_116 : decode cX2_change 116 = .ok (.getfield 19, 3) := by decide +kernel
theorem dX2_change_119 : decode cX2_change 119 = .ok (.iconst 0, 1) := by decide +kernel
theorem dX2_change_120 : decode cX2_change 120 = .ok (.aload_n 0, 1) := by decide +kernel
theorem dX2_change_121 : decode cX2_change 121 = .ok (.getfield 23, 3) := by decide +kernel
theorem dX2_change_124 : decode cX2_change 124 = .ok (.invokevirtual 59, 3) := by decide +kernel
theorem dX2_change_127 : decode cX2_change 127 = .ok (.iinc 5 1, 3) := by decide +kernel
theorem dX2_change_130 : decode cX2_change 130 = .ok (.goto (-127), 3) := by decide +kernel
theorem dX2_change_133 : decode cX2_change 133 = .ok (.iconst 0, 1) := by decide +kernel
theorem dX2_change_134 : decode cX2_change 134 = .ok (.ireturn, 1) := by decide +kernel
theorem dX2_append_0 : decode cX2_append 0 = .ok (.aload_n 0, 1) := by decide +kernel
theorem dX2_append_1 : decode cX2_append 1 = .ok (.getfield 23, 3) := by decide +kernel
theorem dX2_append_4 : decode cX2_append 4 = .ok (.ifCond .lt 39, 3) := by decide +kernel
theorem dX2_append_7 : decode cX2_append 7 = .ok (.aload_n 0, 1) := by decide +kernel
theorem dX2_append_8 : decode cX2_append 8 = .ok (.getfield 23, 3) := by decide +kernel
theorem dX2_append_11 : decode cX2_append 11 = .ok (.aload_n 0, 1) := by decide +kernel
theorem dX2_append_12 : decode cX2_append 12 = .ok (.getfield 19, 3) := by decide +kernel
theorem dX2_append_15 : decode cX2_append 15 = .ok (.arraylength, 1) := by decide +kernel
theorem dX2_append_16 : decode cX2_append 16 = .ok (.if_icmp .ge 27, 3) := by decide +kernel
theorem dX2_append_19 : decode cX2_append 19 = .ok (.aload_n 0, 1) := by decide +kernel
theorem dX2_append_20 : decode cX2_append 20 = .ok (.getfield 19, 3) := by decide +kernel
theorem dX2_append_23 : decode cX2_append 23 = .ok (.aload_n 0, 1) := by decide +kernel
theorem dX2_append_24 : decode cX2_append 24 = .ok (.getfield 23, 3) := by decide +kernel
theorem dX2_append_27 : decode cX2_append 27 = .ok (.iload_n 1, 1) := by decide +kernel
theorem dX2_append_28 : decode cX2_append 28 = .ok (.i2b, 1) := by decide +kernel
theorem dX2_append_29 : decode cX2_append 29 = .ok (.bastore, 1) := by decide +kernel
theorem dX2_append_30 : decode cX2_append 30 = .ok (.aload_n 0, 1) := by decide +kernel
theorem dX2_append_31 : decode cX2_append 31 = .ok (.dup, 1) := by decide +kernel
theorem dX2_append_32 : decode cX2_append 32 = .ok (.getfield 23, 3) := by decide +kernel
theorem dX2_append_35 : decode cX2_append 35 = .ok (.iconst 1, 1) := by decide +kernel
theorem dX2_append_36 : decode cX2_append 36 = .ok (.iadd, 1) := by decide +kernel
theorem dX2_append_37 : decode cX2_append 37 = .ok (.putfield 23, 3) := by decide +kernel
theorem dX2_append_40 : decode cX2_append 40 = .ok (.goto 8, 3) := by decide +kernel
theorem dX2_append_43 : decode cX2_append 43 = .ok (.aload_n 0, 1) := by decide +kernel
theorem dX2_append_44 : decode cX2_append 44 = .ok (.iconst 1, 1) := by decide +kernel
theorem dX2_append_45 : decode cX2_append 45 = .ok (.putfield 27, 3) := by decide +kernel
theorem dX2_append_48 : decode cX2_append 48 = .ok (.return_, 1) := by decide +kernel
theorem dX2_appendRow_0 : decode cX2_appendRow 0 = .ok (.iload_n 2, 1) := by decide +kernel
theorem dX2_appendRow_1 : decode cX2_appendRow 1 = .ok (.iload_n 1, 1) := by decide +kernel
theorem dX2_appendRow_2 : decode cX2_appendRow 2 = .ok (.isub, 1) := by decide +kernel
theorem dX2_appendRow_3 : decode cX2_appendRow 3 = .ok (.istore_n 3, 1) := by decide +kernel
theorem dX2_appendRow_4 : decode cX2_appendRow 4 = .ok (.iload_n 1, 1) := by decide +kernel
theorem dX2_appendRow_5 : decode cX2_appendRow 5 = .ok (.ifCond .lt 19, 3) := by decide +kernel
theorem dX2_appendRow_8 : decode cX2_appendRow 8 = .ok (.iload_n 3, 1) := by decide +kernel
theorem dX2_appendRow_9 : decode cX2_appendRow 9 = .ok (.ifCond .lt 15, 3) := by decide +kernel
theorem dX2_appendRow_12 : decode cX2_appendRow 12 = .ok (.iload_n 2, 1) := by decide +kernel
theorem dX2_appendRow_13 : decode cX2_appendRow 13 = .ok (.aload_n 0, 1) := by decide +kernel
theorem dX2_appendRow_14 : decode cX2_appendRow 14 = .ok (.getfield 15, 3) := by decide +kernel
theorem dX2_appendRow_17 : decode cX2_appendRow 17 = .ok (.getfield 65, 3) := by decide +kernel
theorem dX2_appendRow_20 : decode cX2_appendRow 20 = .ok (.arraylength, 1) := by decide +kernel
theorem dX2_appendRow_21 : decode cX2_appendRow 21 = .ok (.if_icmp .le 4, 3) := by decide +kernel
theorem dX2_appendRow_24 : decode cX2_appendRow 24 = .ok (.return_, 1) := by decide +kernel
theorem dX2_appendRow_25 : decode cX2_appendRow 25 = .ok (.aload_n 0, 1) := by decide +kernel
theorem dX2_appendRow_26 : decode cX2_appendRow 26 = .ok (.getfield 23, 3) := by decide +kernel
theorem dX2_appendRow_29 : decode cX2_appendRow 29 = .ok (.ifCond .lt 17, 3) := by decide +kernel
theorem dX2_appendRow_32 : decode cX2_appendRow 32 = .ok (.iload_n 3, 1) := by decide +kernel
theorem dX2_appendRow_33 : decode cX2_appendRow 33 = .ok (.aload_n 0, 1) := by decide +kernel
theorem dX2_appendRow_34 : decode cX2_appendRow 34 = .ok (.getfield 19, 3) := by decide +kernel
theorem dX2_appendRow_37 : decode cX2_appendRow 37 = .ok (.arraylength, 1) := by decide +kernel
theorem dX2_appendRow_38 : decode cX2_appendRow 38 = .ok (.aload_n 0, 1) := by decide +kernel
theorem dX2_appendRow_39 : decode cX2_appendRow 39 = .ok (.getfield 23, 3) := by decide +kernel
theorem dX2_appendRow_42 : decode cX2_appendRow 42 = .ok (.isub, 1) := by decide +kernel
theorem dX2_appendRow_43 : decode cX2_appendRow 43 = .ok (.if_icmp .le 9, 3) := by decide +kernel
theorem dX2_appendRow_46 : decode cX2_appendRow 46 = .ok (.aload_n 0, 1) := by decide +kernel
theorem dX2_appendRow_47 : decode cX2_appendRow 47 = .ok (.iconst 1, 1) := by decide +kernel
theorem dX2_appendRow_48 : decode cX2_appendRow 48 = .ok (.putfield 27, 3) := by decide +kernel
theorem dX2_appendRow_51 : decode cX2_appendRow 51 = .ok (.return_, 1) := by decide +kernel
theorem dX2_appendRow_52 : decode cX2_appendRow 52 = .ok (.aload_n 0, 1) := by decide +kernel
theorem dX2_appendRow_53 : decode cX2_appendRow 53 = .ok (.getfield 15, 3) := by decide +kernel
theorem dX2_appendRow_56 : decode cX2_appendRow 56 = .ok (.getfield 65, 3) := by decide +kernel
theorem dX2_appendRow_59 : decode cX2_appendRow 59 = .ok (.iload_n 1, 1) := by decide +kernel
theorem dX2_appendRow_60 : decode cX2_appendRow 60 = .ok (.aload_n 0, 1) := by decide +kernel
theorem dX2_appendRow_61 : decode cX2_appendRow 61 = .ok (.getfield 19, 3) := by decide +kernel
theorem dX2_appendRow_64 : decode cX2_appendRow 64 = .ok (.aload_n 0, 1) := by decide +kernel
theorem dX2_appendRow_65 : decode cX2_appendRow 65 = .ok (.getfield 23, 3) := by decide +kernel
theorem dX2_appendRow_68 : decode cX2_appendRow 68 = .ok (.iload_n 3, 1) := by decide +kernel
theorem dX2_appendRow_69 : decode cX2_appendRow 69 = .ok (.invokestatic 68, 3) := by decide +kernel
theorem dX2_appendRow_72 : decode cX2_appendRow 72 = .ok (.aload_n 0, 1) := by decide +kernel
theorem dX2_appendRow_73 : decode cX2_appendRow 73 = .ok (.dup, 1) := by decide +kernel
theorem dX2_appendRow_74 : decode cX2_appendRow 74 = .ok (.getfield 23, 3) := by decide +kernel
theorem dX2_appendRow_77 : decode cX2_appendRow 77 = .ok (.iload_n 3, 1) := by decide +kernel
theorem dX2_appendRow_78 : decode cX2_appendRow 78 = .ok (.iadd, 1) := by decide +kernel
theorem dX2_appendRow_79 : decode cX2_appendRow 79 = .ok (.putfield 23, 3) := by decide +kernel
theorem dX2_appendRow_82 : decode cX2_appendRow 82 = .ok (.return_, 1) := by decide +kernel
theorem dX2_replace_0 : decode cX2_replace 0 = .ok (.iconst 0, 1) := by decide +kernel
theorem dX2_replace_1 : decode cX2_replace 1 = .ok (.istore_n 2, 1) := by decide +kernel
theorem dX2_replace_2 : decode cX2_replace 2 = .ok (.iconst 0, 1) := by decide +kernel
theorem dX2_replace_3 : decode cX2_replace 3 = .ok (.istore_n 3, 1) := by decide +kernel
theorem dX2_replace_4 : decode cX2_replace 4 = .ok (.iconst 1, 1) := by decide +kernel
theorem dX2_replace_5 : decode cX2_replace 5 = .ok (.istore 4, 2) := by decide +kernel
theorem dX2_replace_7 : decode cX2_replace 7 = .ok (.iload 4, 2) := by decide +kernel
theorem dX2_replace_9 : decode cX2_replace 9 = .ok (.bipush 31, 2) := by decide +kernel
theorem dX2_replace_11 : decode cX2_replace 11 = .ok (.if_icmp .gt 102, 3) := by decide +kernel
theorem dX2_replace_14 : decode cX2_replace 14 = .ok (.aload_n 0, 1) := by decide +kernel
theorem dX2_replace_15 : decode cX2_replace 15 = .ok (.getfield 15, 3) := by decide +kernel
theorem dX2_replace_18 : decode cX2_replace 18 = .ok (.aload_n 1, 1) := by decide +kernel
theorem dX2_replace_19 : decode cX2_replace 19 = .ok (.getfield 74, 3) := by decide +kernel
theorem dX2_replace_22 : decode cX2_replace 22 = .ok (.iload_n 3, 1) := by decide +kernel
theorem dX2_replace_23 : decode cX2_replace 23 = .ok (.ifCond .eq 13, 3) := by decide +kernel
theorem dX2_replace_26 : decode cX2_replace 26 = .ok (.aload_n 0, 1) := by decide +kernel
theorem dX2_replace_27 : decode cX2_replace 27 = .ok (.getfield 15, 3) := by decide +kernel
theorem dX2_replace_30 : decode cX2_replace 30 = .ok (.getfield 77, 3) := by decide +kernel
theorem dX2_replace_33 : decode cX2_replace 33 = .ok (.goto 4, 3) := by decide +kernel
theorem dX2_replace_36 : decode cX2_replace 36 = .ok (.iconst 0, 1) := by decide +kernel
theorem dX2_replace_37 : decode cX2_replace 37 = .ok (.iload_n 3, 1) := by decide +kernel
theorem dX2_replace_38 : decode cX2_replace 38 = .ok (.invokevirtual 80, 3) := by decide +kernel
theorem dX2_replace_41 : decode cX2_replace 41 = .ok (.ifCond .ne 6, 3) := by decide +kernel
theorem dX2_replace_44 : decode cX2_replace 44 = .ok (.goto 69, 3) := by decide +kernel
theorem dX2_replace_47 : decode cX2_replace 47 = .ok (.iconst 1, 1) := by decide +kernel
theorem dX2_replace_48 : decode cX2_replace 48 = .ok (.istore_n 3, 1) := by decide +kernel
theorem dX2_replace_49 : decode cX2_replace 49 = .ok (.aload_n 1, 1) := by decide +kernel
theorem dX2_replace_50 : decode cX2_replace 50 = .ok (.getfield 49, 3) := by decide +kernel
theorem dX2_replace_53 : decode cX2_replace 53 = .ok (.ifCond .eq 12, 3) := by decide +kernel
theorem dX2_replace_56 : decode cX2_replace 56 = .ok (.aload_n 1, 1) := by decide +kernel
theorem dX2_replace_57 : decode cX2_replace 57 = .ok (.getfield 49, 3) := by decide +kernel
theorem dX2_replace_60 : decode cX2_replace 60 = .ok (.iload 4, 2) := by decide +kernel
theorem dX2_replace_62 : decode cX2_replace 62 = .ok (.if_icmp .ne 33, 3) := by decide +kernel
theorem dX2_replace_65 : decode cX2_replace 65 = .ok (.aload_n 0, 1) := by decide +kernel
theorem dX2_replace_66 : decode cX2_replace 66 = .ok (.iload_n 2, 1) := by decide +kernel
theorem dX2_replace_67 : decode cX2_replace 67 = .ok (.aload_n 0, 1) := by decide +kernel
theorem dX2_replace_68 : decode cX2_replace 68 = .ok (.getfield 15, 3) := by decide +kernel
theorem dX2_replace_71 : decode cX2_replace 71 = .ok (.getfield 84, 3) := by decide +kernel
theorem dX2_replace_74 : decode cX2_replace 74 = .ok (.invokevirtual 87, 3) := by decide +kernel
theorem dX2_replace_77 : decode cX2_replace 77 = .ok (.aload_n 0, 1) := by decide +kernel
theorem dX2_replace_78 : decode cX2_replace 78 = .ok (.aload_n 1, 1) := by decide +kernel
theorem dX2_replace_79 : decode cX2_replace 79 = .ok (.invokevirtual 91, 3) := by decide +kernel
theorem dX2_replace_82 : decode cX2_replace 82 = .ok (.aload_n 0, 1) := by decide +kernel
theorem dX2_replace_83 : decode cX2_replace 83 = .ok (.getfield 15, 3) := by decide +kernel
theorem dX2_replace_86 : decode cX2_replace 86 = .ok (.getfield 77, 3) := by decide +kernel
theorem dX2_replace_89 : decode cX2_replace 89 = .ok (.istore_n 2, 1) := by decide +kernel
theorem dX2_replace_90 : decode cX2_replace 90 = .ok (.aload_n 0, 1) := by decide +kernel
theorem dX2_replace_91 : decode cX2_replace 91 = .ok (.iconst 1, 1) := by decide +kernel
theorem dX2_replace_92 : decode cX2_replace 92 = .ok (.putfield 94, 3) := by decide +kernel
theorem dX2_replace_95 : decode cX2_replace 95 = .ok (.aload_n 1, 1) := by decide +kernel
theorem dX2_replace_96 : decode cX2_replace 96 = .ok (.getfield 49, 3) := by decide +kernel
theorem dX2_replace_99 : decode cX2_replace 99 = .ok (.iload 4, 2) := by decide +kernel
theorem dX2_replace_101 : decode cX2_replace 101 = .ok (.if_icmp .ne 6, 3) := by decide +kernel
theorem dX2_replace_104 : decode cX2_replace 104 = .ok (.goto 9, 3) := by decide +kernel
theorem dX2_replace_107 : decode cX2_replace 107 = .ok (.iinc 4 1, 3) := by decide +kernel
theorem dX2_replace_110 : decode cX2_replace 110 = .ok (.goto (-103), 3) := by decide +kernel
theorem dX2_replace_113 : decode cX2_replace 113 = .ok (.aload_n 0, 1) := by decide +kernel
theorem dX2_replace_114 : decode cX2_replace 114 = .ok (.iload_n 2, 1) := by decide +kernel
theorem dX2_replace_115 : decode cX2_replace 115 = .ok (.aload_n 0, 1) := by decide +kernel
theorem dX2_replace_116 : decode cX2_replace 116 = .ok (.getfield 15, 3) := by decide +kernel
theorem dX2_replace_119 : decode cX2_replace 119 = .ok (.getfield 97, 3) := by decide +kernel
theorem dX2_replace_122 : decode cX2_replace 122 = .ok (.invokevirtual 87, 3) := by decide +kernel
theorem dX2_replace_125 : decode cX2_replace 125 = .ok (.return_, 1) := by decide +kernel
theorem dX2_appendPut_0 : decode cX2_appendPut 0 = .ok (.aload_n 1, 1) := by decide +kernel
theorem dX2_appendPut_1 : decode cX2_appendPut 1 = .ok (.getfield 98, 3) := by decide +kernel
theorem dX2_appendPut_4 : decode cX2_appendPut 4 = .ok (.istore_n 2, 1) := by decide +kernel
theorem dX2_appendPut_5 : decode cX2_appendPut 5 = .ok (.iload_n 2, 1) := by decide +kernel
theorem dX2_appendPut_6 : decode cX2_appendPut 6 = .ok (.aload_n 1, 1) := by decide +kernel
theorem dX2_appendPut_7 : decode cX2_appendPut 7 = .ok (.getfield 101, 3) := by decide +kernel
theorem dX2_appendPut_10 : decode cX2_appendPut 10 = .ok (.if_icmp .ge 111, 3) := by decide +kernel
theorem dX2_appendPut_13 : decode cX2_appendPut 13 = .ok (.aload_n 0, 1) := by decide +kernel
theorem dX2_appendPut_14 : decode cX2_appendPut 14 = .ok (.getfield 9, 3) := by decide +kernel
theorem dX2_appendPut_17 : decode cX2_appendPut 17 = .ok (.iload_n 2, 1) := by decide +kernel
theorem dX2_appendPut_18 : decode cX2_appendPut 18 = .ok (.invokevirtual 104, 3) := by decide +kernel
theorem dX2_appendPut_21 : decode cX2_appendPut 21 = .ok (.istore_n 3, 1) := by decide +kernel
theorem dX2_appendPut_22 : decode cX2_appendPut 22 = .ok (.iload_n 3, 1) := by decide +kernel
theorem dX2_appendPut_23 : decode cX2_appendPut 23 = .ok (.bipush 38, 2) := by decide +kernel
theorem dX2_appendPut_25 : decode cX2_appendPut 25 = .ok (.if_icmp .ne 24, 3) := by decide +kernel
theorem dX2_appendPut_28 : decode cX2_appendPut 28 = .ok (.aload_n 0, 1) := by decide +kernel
theorem dX2_appendPut_29 : decode cX2_appendPut 29 = .ok (.aload_n 0, 1) := by decide +kernel
theorem dX2_appendPut_30 : decode cX2_appendPut 30 = .ok (.getfield 15, 3) := by decide +kernel
theorem dX2_appendPut_33 : decode cX2_appendPut 33 = .ok (.getfield 84, 3) := by decide +kernel
theorem dX2_appendPut_36 : decode cX2_appendPut 36 = .ok (.aload_n 0, 1) := by decide +kernel
theorem dX2_appendPut_37 : decode cX2_appendPut 37 = .ok (.getfield 15, 3) := by decide +kernel
theorem dX2_appendPut_40 : decode cX2_appendPut 40 = .ok (.getfield 77, 3) := by decide +kernel
theorem dX2_appendPut_43 : decode cX2_appendPut 43 = .ok (.invokevirtual 87, 3) := by decide +kernel
theorem dX2_appendPut_46 : decode cX2_appendPut 46 = .ok (.goto 69, 3) := by decide +kernel
theorem dX2_appendPut_49 : decode cX2_appendPut 49 = .ok (.iload_n 3, 1) := by decide +kernel
theorem dX2_appendPut_50 : decode cX2_appendPut 50 = .ok (.bipush 92, 2) := by decide +kernel
theorem dX2_appendPut_52 : decode cX2_appendPut 52 = .ok (.if_icmp .ne 58, 3) := by decide +kernel
theorem dX2_appendPut_55 : decode cX2_appendPut 55 = .ok (.iinc 2 1, 3) := by decide +kernel
theorem dX2_appendPut_58 : decode cX2_appendPut 58 = .ok (.aload_n 0, 1) := by decide +kernel
theorem dX2_appendPut_59 : decode cX2_appendPut 59 = .ok (.getfield 9, 3) := by decide +kernel
theorem dX2_appendPut_62 : decode cX2_appendPut 62 = .ok (.iload_n 2, 1) := by decide +kernel
theorem dX2_appendPut_63 : decode cX2_appendPut 63 = .ok (.invokevirtual 104, 3) := by decide +kernel
theorem dX2_appendPut_66 : decode cX2_appendPut 66 = .ok (.bipush 48, 2) := by decide +kernel
theorem dX2_appendPut_68 : decode cX2_appendPut 68 = .ok (.isub, 1) := by decide +kernel
theorem dX2_appendPut_69 : decode cX2_appendPut 69 = .ok (.istore 4, 2) := by decide +kernel
theorem dX2_appendPut_71 : decode cX2_appendPut 71 = .ok (.iload 4, 2) := by decide +kernel
theorem dX2_appendPut_73 : decode cX2_appendPut 73 = .ok (.iconst 1, 1) := by decide +kernel
theorem dX2_appendPut_74 : decode cX2_appendPut 74 = .ok (.if_icmp .lt 33, 3) := by decide +kernel
theorem dX2_appendPut_77 : decode cX2_appendPut 77 = .ok (.iload 4, 2) := by decide +kernel
theorem dX2_appendPut_79 : decode cX2_appendPut 79 = .ok (.iconst 2, 1) := by decide +kernel
theorem dX2_appendPut_80 : decode cX2_appendPut 80 = .ok (.if_icmp .gt 27, 3) := by decide +kernel
theorem dX2_appendPut_83 : decode cX2_appendPut 83 = .ok (.aload_n 0, 1) := by decide +kernel
theorem dX2_appendPut_84 : decode cX2_appendPut 84 = .ok (.aload_n 0, 1) := by decide +kernel
theorem dX2_appendPut_85 : decode cX2_appendPut 85 = .ok (.getfield 15, 3) := by decide +kernel
theorem dX2_appendPut_88 : decode cX2_appendPut 88 = .ok (.getfield 110, 3) := by decide +kernel
theorem dX2_appendPut_91 : decode cX2_appendPut 91 = .ok (.iload 4, 2) := by decide +kernel
theorem dX2_appendPut_93 : decode cX2_appendPut 93 = .ok (.iaload, 1) := by decide +kernel
theorem dX2_appendPut_94 : decode cX2_appendPut 94 = .ok (.aload_n 0, 1) := by decide +kernel
theorem dX2_appendPut_95 : decode cX2_appendPut 95 = .ok (.getfield 15, 3) := by decide +kernel
theorem dX2_appendPut_98 : decode cX2_appendPut 98 = .ok (.getfield 114, 3) := by decide +kernel
theorem dX2_appendPut_101 : decode cX2_appendPut 101 = .ok (.iload 4, 2) := by decide +kernel
theorem dX2_appendPut_103 : decode cX2_appendPut 103 = .ok (.iaload, 1) := by decide +kernel
theorem dX2_appendPut_104 : decode cX2_appendPut 104 = .ok (.invokevirtual 87, 3) := by decide +kernel
theorem dX2_appendPut_107 : decode cX2_appendPut 107 = .ok (.goto 8, 3) := by decide +kernel
theorem dX2_appendPut_110 : decode cX2_appendPut 110 = .ok (.aload_n 0, 1) := by decide +kernel
theorem dX2_appendPut_111 : decode cX2_appendPut 111 = .ok (.iload_n 3, 1) := by decide +kernel
theorem dX2_appendPut_112 : decode cX2_appendPut 112 = .ok (.invokevirtual 117, 3) := by decide +kernel
theorem dX2_appendPut_115 : decode cX2_appendPut 115 = .ok (.iinc 2 1, 3) := by decide +kernel
theorem dX2_appendPut_118 : decode cX2_appendPut 118 = .ok (.goto (-113), 3) := by decide +kernel
theorem dX2_appendPut_121 : decode cX2_appendPut 121 = .ok (.return_, 1) := by decide +kernel
theorem dX2_turn_0 : decode cX2_turn 0 = .ok (.iconst 0, 1) := by decide +kernel
theorem dX2_turn_1 : decode cX2_turn 1 = .ok (.istore_n 2, 1) := by decide +kernel
theorem dX2_turn_2 : decode cX2_turn 2 = .ok (.iload_n 2, 1) := by decide +kernel
theorem dX2_turn_3 : decode cX2_turn 3 = .ok (.aload_n 0, 1) := by decide +kernel
theorem dX2_turn_4 : decode cX2_turn 4 = .ok (.getfield 15, 3) := by decide +kernel
theorem dX2_turn_7 : decode cX2_turn 7 = .ok (.getfield 97, 3) := by decide +kernel
theorem dX2_turn_10 : decode cX2_turn 10 = .ok (.if_icmp .ge 93, 3) := by decide +kernel
theorem dX2_turn_13 : decode cX2_turn 13 = .ok (.iload_n 2, 1) := by decide +kernel
theorem dX2_turn_14 : decode cX2_turn 14 = .ok (.aload_n 0, 1) := by decide +kernel
theorem dX2_turn_15 : decode cX2_turn 15 = .ok (.getfield 15, 3) := by decide +kernel
theorem dX2_turn_18 : decode cX2_turn 18 = .ok (.getfield 65, 3) := by decide +kernel
