theorem dX12_print_33 : decode cX12_print 33 = .ok (.aload_n 0, 1) := by decide +kernel
theorem dX12_print_34 : decode cX12_print 34 = .ok (.iload_n 2, 1) := by decide +kernel
theorem dX12_print_35 : decode cX12_print 35 = .ok (.invokestatic 298, 3) := by decide +kernel
theorem dX12_print_38 : decode cX12_print 38 = .ok (.iconst 0, 1) := by decide +kernel
theorem dX12_print_39 : decode cX12_print 39 = .ok (.aload_n 0, 1) := by decide +kernel
theorem dX12_print_40 : decode cX12_print 40 = .ok (.iload_n 2, 1) := by decide +kernel
theorem dX12_print_41 : decode cX12_print 41 = .ok (.invokestatic 298, 3) := by decide +kernel
theorem dX12_print_44 : decode cX12_print 44 = .ok (.invokevirtual 109, 3) := by decide +kernel
theorem dX12_print_47 : decode cX12_print 47 = .ok (.invokevirtual 348, 3) := by decide +kernel
theorem dX12_print_50 : decode cX12_print 50 = .ok (.aload_n 0, 1) := by decide +kernel
theorem dX12_print_51 : decode cX12_print 51 = .ok (.invokevirtual 363, 3) := by decide +kernel
theorem dX12_print_54 : decode cX12_print 54 = .ok (.ifCond .le 5, 3) := by decide +kernel
theorem dX12_print_57 : decode cX12_print 57 = .ok (.iconst 4, 1) := by decide +kernel
theorem dX12_print_58 : decode cX12_print 58 = .ok (.ireturn, 1) := by decide +kernel
theorem dX12_print_59 : decode cX12_print 59 = .ok (.iinc 2 1, 3) := by decide +kernel
theorem dX12_print_62 : decode cX12_print 62 = .ok (.goto (-57), 3) := by decide +kernel
theorem dX12_print_65 : decode cX12_print 65 = .ok (.aload_n 0, 1) := by decide +kernel
theorem dX12_print_66 : decode cX12_print 66 = .ok (.aload_n 0, 1) := by decide +kernel
theorem dX12_print_67 : decode cX12_print 67 = .ok (.getfield 320, 3) := by decide +kernel
theorem dX12_print_70 : decode cX12_print 70 = .ok (.putfield 295, 3) := by decide +kernel
theorem dX12_print_73 : decode cX12_print 73 = .ok (.iconst 0, 1) := by decide +kernel
theorem dX12_print_74 : decode cX12_print 74 = .ok (.ireturn, 1) := by decide +kernel
theorem dX12_hold_0 : decode cX12_hold 0 = .ok (.iload_n 1, 1) := by decide +kernel
theorem dX12_hold_1 : decode cX12_hold 1 = .ok (.aload_n 0, 1) := by decide +kernel
theorem dX12_hold_2 : decode cX12_hold 2 = .ok (.getfield 320, 3) := by decide +kernel
theorem dX12_hold_5 : decode cX12_hold 5 = .ok (.iadd, 1) := by decide +kernel
theorem dX12_hold_6 : decode cX12_hold 6 = .ok (.aload_n 0, 1) := by decide +kernel
theorem dX12_hold_7 : decode cX12_hold 7 = .ok (.getfield 317, 3) := by decide +kernel
theorem dX12_hold_10 : decode cX12_hold 10 = .ok (.isub, 1) := by decide +kernel
theorem dX12_hold_11 : decode cX12_hold 11 = .ok (.iconst 1, 1) := by decide +kernel
theorem dX12_hold_12 : decode cX12_hold 12 = .ok (.iadd, 1) := by decide +kernel
theorem dX12_hold_13 : decode cX12_hold 13 = .ok (.bipush 40, 2) := by decide +kernel
theorem dX12_hold_15 : decode cX12_hold 15 = .ok (.if_icmp .le 5, 3) := by decide +kernel
theorem dX12_hold_18 : decode cX12_hold 18 = .ok (.iconst 4, 1) := by decide +kernel
theorem dX12_hold_19 : decode cX12_hold 19 = .ok (.ireturn, 1) := by decide +kernel
theorem dX12_hold_20 : decode cX12_hold 20 = .ok (.aload_n 0, 1) := by decide +kernel
theorem dX12_hold_21 : decode cX12_hold 21 = .ok (.getfield 317, 3) := by decide +kernel
theorem dX12_hold_24 : decode cX12_hold 24 = .ok (.istore_n 2, 1) := by decide +kernel
theorem dX12_hold_25 : decode cX12_hold 25 = .ok (.iload_n 2, 1) := by decide +kernel
theorem dX12_hold_26 : decode cX12_hold 26 = .ok (.aload_n 0, 1) := by decide +kernel
theorem dX12_hold_27 : decode cX12_hold 27 = .ok (.getfield 320, 3) := by decide +kernel
theorem dX12_hold_30 : decode cX12_hold 30 = .ok (.if_icmp .gt 28, 3) := by decide +kernel
theorem dX12_hold_33 : decode cX12_hold 33 = .ok (.aload_n 0, 1) := by decide +kernel
theorem dX12_hold_34 : decode cX12_hold 34 = .ok (.iload_n 2, 1) := by decide +kernel
theorem dX12_hold_35 : decode cX12_hold 35 = .ok (.invokestatic 298, 3) := by decide +kernel
theorem dX12_hold_38 : decode cX12_hold 38 = .ok (.bipush 82, 2) := by decide +kernel
theorem dX12_hold_40 : decode cX12_hold 40 = .ok (.iload_n 1, 1) := by decide +kernel
theorem dX12_hold_41 : decode cX12_hold 41 = .ok (.iadd, 1) := by decide +kernel
theorem dX12_hold_42 : decode cX12_hold 42 = .ok (.iload_n 2, 1) := by decide +kernel
theorem dX12_hold_43 : decode cX12_hold 43 = .ok (.iadd, 1) := by decide +kernel
theorem dX12_hold_44 : decode cX12_hold 44 = .ok (.aload_n 0, 1) := by decide +kernel
theorem dX12_hold_45 : decode cX12_hold 45 = .ok (.getfield 317, 3) := by decide +kernel
theorem dX12_hold_48 : decode cX12_hold 48 = .ok (.isub, 1) := by decide +kernel
theorem dX12_hold_49 : decode cX12_hold 49 = .ok (.invokevirtual 127, 3) := by decide +kernel
theorem dX12_hold_52 : decode cX12_hold 52 = .ok (.iinc 2 1, 3) := by decide +kernel
theorem dX12_hold_55 : decode cX12_hold 55 = .ok (.goto (-30), 3) := by decide +kernel
theorem dX12_hold_58 : decode cX12_hold 58 = .ok (.aload_n 0, 1) := by decide +kernel
theorem dX12_hold_59 : decode cX12_hold 59 = .ok (.iload_n 1, 1) := by decide +kernel
theorem dX12_hold_60 : decode cX12_hold 60 = .ok (.aload_n 0, 1) := by decide +kernel
theorem dX12_hold_61 : decode cX12_hold 61 = .ok (.getfield 320, 3) := by decide +kernel
theorem dX12_hold_64 : decode cX12_hold 64 = .ok (.iadd, 1) := by decide +kernel
theorem dX12_hold_65 : decode cX12_hold 65 = .ok (.aload_n 0, 1) := by decide +kernel
theorem dX12_hold_66 : decode cX12_hold 66 = .ok (.getfield 317, 3) := by decide +kernel
theorem dX12_hold_69 : decode cX12_hold 69 = .ok (.isub, 1) := by decide +kernel
theorem dX12_hold_70 : decode cX12_hold 70 = .ok (.iconst 1, 1) := by decide +kernel
theorem dX12_hold_71 : decode cX12_hold 71 = .ok (.iadd, 1) := by decide +kernel
theorem dX12_hold_72 : decode cX12_hold 72 = .ok (.putfield 366, 3) := by decide +kernel
theorem dX12_hold_75 : decode cX12_hold 75 = .ok (.aload_n 0, 1) := by decide +kernel
theorem dX12_hold_76 : decode cX12_hold 76 = .ok (.aload_n 0, 1) := by decide +kernel
theorem dX12_hold_77 : decode cX12_hold 77 = .ok (.getfield 320, 3) := by decide +kernel
theorem dX12_hold_80 : decode cX12_hold 80 = .ok (.putfield 295, 3) := by decide +kernel
theorem dX12_hold_83 : decode cX12_hold 83 = .ok (.iconst 0, 1) := by decide +kernel
theorem dX12_hold_84 : decode cX12_hold 84 = .ok (.ireturn, 1) := by decide +kernel
theorem dX12_bringHeld_0 : decode cX12_bringHeld 0 = .ok (.aload_n 0, 1) := by decide +kernel
theorem dX12_bringHeld_1 : decode cX12_bringHeld 1 = .ok (.getfield 366, 3) := by decide +kernel
theorem dX12_bringHeld_4 : decode cX12_bringHeld 4 = .ok (.ifCond .ne 5, 3) := by decide +kernel
theorem dX12_bringHeld_7 : decode cX12_bringHeld 7 = .ok (.iconst 5, 1) := by decide +kernel
theorem dX12_bringHeld_8 : decode cX12_bringHeld 8 = .ok (.ireturn, 1) := by decide +kernel
theorem dX12_bringHeld_9 : decode cX12_bringHeld 9 = .ok (.aload_n 0, 1) := by decide +kernel
theorem dX12_bringHeld_10 : decode cX12_bringHeld 10 = .ok (.getfield 124, 3) := by decide +kernel
theorem dX12_bringHeld_13 : decode cX12_bringHeld 13 = .ok (.aload_n 0, 1) := by decide +kernel
theorem dX12_bringHeld_14 : decode cX12_bringHeld 14 = .ok (.getfield 366, 3) := by decide +kernel
theorem dX12_bringHeld_17 : decode cX12_bringHeld 17 = .ok (.iadd, 1) := by decide +kernel
theorem dX12_bringHeld_18 : decode cX12_bringHeld 18 = .ok (.bipush 40, 2) := by decide +kernel
theorem dX12_bringHeld_20 : decode cX12_bringHeld 20 = .ok (.if_icmp .le 5, 3) := by decide +kernel
theorem dX12_bringHeld_23 : decode cX12_bringHeld 23 = .ok (.iconst 4, 1) := by decide +kernel
theorem dX12_bringHeld_24 : decode cX12_bringHeld 24 = .ok (.ireturn, 1) := by decide +kernel
theorem dX12_bringHeld_25 : decode cX12_bringHeld 25 = .ok (.iconst 0, 1) := by decide +kernel
theorem dX12_bringHeld_26 : decode cX12_bringHeld 26 = .ok (.istore_n 1, 1) := by decide +kernel
theorem dX12_bringHeld_27 : decode cX12_bringHeld 27 = .ok (.iload_n 1, 1) := by decide +kernel
theorem dX12_bringHeld_28 : decode cX12_bringHeld 28 = .ok (.aload_n 0, 1) := by decide +kernel
theorem dX12_bringHeld_29 : decode cX12_bringHeld 29 = .ok (.getfield 366, 3) := by decide +kernel
theorem dX12_bringHeld_32 : decode cX12_bringHeld 32 = .ok (.if_icmp .ge 23, 3) := by decide +kernel
theorem dX12_bringHeld_35 : decode cX12_bringHeld 35 = .ok (.aload_n 0, 1) := by decide +kernel
theorem dX12_bringHeld_36 : decode cX12_bringHeld 36 = .ok (.bipush 82, 2) := by decide +kernel
theorem dX12_bringHeld_38 : decode cX12_bringHeld 38 = .ok (.iload_n 1, 1) := by decide +kernel
theorem dX12_bringHeld_39 : decode cX12_bringHeld 39 = .ok (.iadd, 1) := by decide +kernel
theorem dX12_bringHeld_40 : decode cX12_bringHeld 40 = .ok (.aload_n 0, 1) := by decide +kernel
theorem dX12_bringHeld_41 : decode cX12_bringHeld 41 = .ok (.getfield 320, 3) := by decide +kernel
theorem dX12_bringHeld_44 : decode cX12_bringHeld 44 = .ok (.iload_n 1, 1) := by decide +kernel
theorem dX12_bringHeld_45 : decode cX12_bringHeld 45 = .ok (.iadd, 1) := by decide +kernel
theorem dX12_bringHeld_46 : decode cX12_bringHeld 46 = .ok (.invokevirtual 332, 3) := by decide +kernel
theorem dX12_bringHeld_49 : decode cX12_bringHeld 49 = .ok (.iinc 1 1, 3) := by decide +kernel
theorem dX12_bringHeld_52 : decode cX12_bringHeld 52 = .ok (.goto (-25), 3) := by decide +kernel
theorem dX12_bringHeld_55 : decode cX12_bringHeld 55 = .ok (.aload_n 0, 1) := by decide +kernel
theorem dX12_bringHeld_56 : decode cX12_bringHeld 56 = .ok (.aload_n 0, 1) := by decide +kernel
theorem dX12_bringHeld_57 : decode cX12_bringHeld 57 = .ok (.getfield 320, 3) := by decide +kernel
theorem dX12_bringHeld_60 : decode cX12_bringHeld 60 = .ok (.aload_n 0, 1) := by decide +kernel
theorem dX12_bringHeld_61 : decode cX12_bringHeld 61 = .ok (.getfield 366, 3) := by decide +kernel
theorem dX12_bringHeld_64 : decode cX12_bringHeld 64 = .ok (.iadd, 1) := by decide +kernel
theorem dX12_bringHeld_65 : decode cX12_bringHeld 65 = .ok (.putfield 295, 3) := by decide +kernel
theorem dX12_bringHeld_68 : decode cX12_bringHeld 68 = .ok (.iconst 0, 1) := by decide +kernel
theorem dX12_bringHeld_69 : decode cX12_bringHeld 69 = .ok (.ireturn, 1) := by decide +kernel
theorem dX12_exchange_0 : decode cX12_exchange 0 = .ok (.aload_n 0, 1) := by decide +kernel
theorem dX12_exchange_1 : decode cX12_exchange 1 = .ok (.getfield 320, 3) := by decide +kernel
theorem dX12_exchange_4 : decode cX12_exchange 4 = .ok (.aload_n 0, 1) := by decide +kernel
theorem dX12_exchange_5 : decode cX12_exchange 5 = .ok (.getfield 317, 3) := by decide +kernel
theorem dX12_exchange_8 : decode cX12_exchange 8 = .ok (.isub, 1) := by decide +kernel
theorem dX12_exchange_9 : decode cX12_exchange 9 = .ok (.iconst 1, 1) := by decide +kernel
theorem dX12_exchange_10 : decode cX12_exchange 10 = .ok (.iadd, 1) := by decide +kernel
theorem dX12_exchange_11 : decode cX12_exchange 11 = .ok (.istore_n 1, 1) := by decide +kernel
theorem dX12_exchange_12 : decode cX12_exchange 12 = .ok (.aload_n 0, 1) := by decide +kernel
theorem dX12_exchange_13 : decode cX12_exchange 13 = .ok (.getfield 366, 3) := by decide +kernel
theorem dX12_exchange_16 : decode cX12_exchange 16 = .ok (.ifCond .ne 5, 3) := by decide +kernel
theorem dX12_exchange_19 : decode cX12_exchange 19 = .ok (.iconst 5, 1) := by decide +kernel
theorem dX12_exchange_20 : decode cX12_exchange 20 = .ok (.ireturn, 1) := by decide +kernel
theorem dX12_exchange_21 : decode cX12_exchange 21 = .ok (.aload_n 0, 1) := by decide +kernel
theorem dX12_exchange_22 : decode cX12_exchange 22 = .ok (.getfield 124, 3) := by decide +kernel
theorem dX12_exchange_25 : decode cX12_exchange 25 = .ok (.iload_n 1, 1) := by decide +kernel
theorem dX12_exchange_26 : decode cX12_exchange 26 = .ok (.isub, 1) := by decide +kernel
theorem dX12_exchange_27 : decode cX12_exchange 27 = .ok (.aload_n 0, 1) := by decide +kernel
theorem dX12_exchange_28 : decode cX12_exchange 28 = .ok (.getfield 366, 3) := by decide +kernel
theorem dX12_exchange_31 : decode cX12_exchange 31 = .ok (.iadd, 1) := by decide +kernel
theorem dX12_exchange_32 : decode cX12_exchange 32 = .ok (.bipush 40, 2) := by decide +kernel
theorem dX12_exchange_34 : decode cX12_exchange 34 = .ok (.if_icmp .le 5, 3) := by decide +kernel
theorem dX12_exchange_37 : decode cX12_exchange 37 = .ok (.iconst 4, 1) := by decide +kernel
theorem dX12_exchange_38 : decode cX12_exchange 38 = .ok (.ireturn, 1) := by decide +kernel
theorem dX12_exchange_39 : decode cX12_exchange 39 = .ok (.iconst 0, 1) := by decide +kernel
theorem dX12_exchange_40 : decode cX12_exchange 40 = .ok (.istore_n 2, 1) := by decide +kernel
theorem dX12_exchange_41 : decode cX12_exchange 41 = .ok (.iload_n 2, 1) := by decide +kernel
theorem dX12_exchange_42 : decode cX12_exchange 42 = .ok (.iload_n 1, 1) := by decide +kernel
theorem dX12_exchange_43 : decode cX12_exchange 43 = .ok (.if_icmp .ge 27, 3) := by decide +kernel
theorem dX12_exchange_46 : decode cX12_exchange 46 = .ok (.aload_n 0, 1) := by decide +kernel
theorem dX12_exchange_47 : decode cX12_exchange 47 = .ok (.aload_n 0, 1) := by decide +kernel
theorem dX12_exchange_48 : decode cX12_exchange 48 = .ok (.getfield 317, 3) := by decide +kernel
theorem dX12_exchange_51 : decode cX12_exchange 51 = .ok (.iload_n 2, 1) := by decide +kernel
theorem dX12_exchange_52 : decode cX12_exchange 52 = .ok (.iadd, 1) := by decide +kernel
theorem dX12_exchange_53 : decode cX12_exchange 53 = .ok (.invokestatic 298, 3) := by decide +kernel
theorem dX12_exchange_56 : decode cX12_exchange 56 = .ok (.sipush 431, 3) := by decide +kernel
theorem dX12_exchange_59 : decode cX12_exchange 59 = .ok (.iload_n 2, 1) := by decide +kernel
theorem dX12_exchange_60 : decode cX12_exchange 60 = .ok (.iadd, 1) := by decide +kernel
theorem dX12_exchange_61 : decode cX12_exchange 61 = .ok (.invokevirtual 127, 3) := by decide +kernel
theorem dX12_exchange_64 : decode cX12_exchange 64 = .ok (.iinc 2 1, 3) := by decide +kernel
theorem dX12_exchange_67 : decode cX12_exchange 67 = .ok (.goto (-26), 3) := by decide +kernel
theorem dX12_exchange_70 : decode cX12_exchange 70 = .ok (.aload_n 0, 1) := by decide +kernel
theorem dX12_exchange_71 : decode cX12_exchange 71 = .ok (.invokevirtual 345, 3) := by decide +kernel
theorem dX12_exchange_74 : decode cX12_exchange 74 = .ok (.iconst 0, 1) := by decide +kernel
theorem dX12_exchange_75 : decode cX12_exchange 75 = .ok (.istore_n 2, 1) := by decide +kernel
theorem dX12_exchange_76 : decode cX12_exchange 76 = .ok (.iload_n 2, 1) := by decide +kernel
theorem dX12_exchange_77 : decode cX12_exchange 77 = .ok (.aload_n 0, 1) := by decide +kernel
theorem dX12_exchange_78 : decode cX12_exchange 78 = .ok (.getfield 366, 3) := by decide +kernel
theorem dX12_exchange_81 : decode cX12_exchange 81 = .ok (.if_icmp .ge 25, 3) := by decide +kernel
theorem dX12_exchange_84 : decode cX12_exchange 84 = .ok (.aload_n 0, 1) := by decide +kernel
theorem dX12_exchange_85 : decode cX12_exchange 85 = .ok (.bipush 82, 2) := by decide +kernel
theorem dX12_exchange_87 : decode cX12_exchange 87 = .ok (.iload_n 2, 1) := by decide +kernel
theorem dX12_exchange_88 : decode cX12_exchange 88 = .ok (.iadd, 1) := by decide +kernel
theorem dX12_exchange_89 : decode cX12_exchange 89 = .ok (.aload_n 0, 1) := by decide +kernel
theorem dX12_exchange_90 : decode cX12_exchange 90 = .ok (.getfield 317, 3) := by decide +kernel
theorem dX12_exchange_93 : decode cX12_exchange 93 = .ok (.iconst 1, 1) := by decide +kernel
theorem dX12_exchange_94 : decode cX12_exchange 94 = .ok (.isub, 1) := by decide +kernel
theorem dX12_exchange_95 : decode cX12_exchange 95 = .ok (.iload_n 2, 1) := by decide +kernel
theorem dX12_exchange_96 : decode cX12_exchange 96 = .ok (.iadd, 1) := by decide +kernel
theorem dX12_exchange_97 : decode cX12_exchange 97 = .ok (.invokevirtual 332, 3) := by decide +kernel
theorem dX12_exchange_100 : decode cX12_exchange 100 = .ok (.iinc 2 1, 3) := by decide +kernel
theorem dX12_exchange_103 : decode cX12_exchange 103 = .ok (.goto (-27), 3) := by decide +kernel
theorem dX12_exchange_106 : decode cX12_exchange 106 = .ok (.aload_n 0, 1) := by decide +kernel
theorem dX12_exchange_107 : decode cX12_exchange 107 = .ok (.aload_n 0, 1) := by decide +kernel
theorem dX12_exchange_108 : decode cX12_exchange 108 = .ok (.getfield 317, 3) := by decide +kernel
theorem dX12_exchange_111 : decode cX12_exchange 111 = .ok (.iconst 1, 1) := by decide +kernel
theorem dX12_exchange_112 : decode cX12_exchange 112 = .ok (.isub, 1) := by decide +kernel
theorem dX12_exchange_113 : decode cX12_exchange 113 = .ok (.aload_n 0, 1) := by decide +kernel
theorem dX12_exchange_114 : decode cX12_exchange 114 = .ok (.getfield 366, 3) := by decide +kernel
theorem dX12_exchange_117 : decode cX12_exchange 117 = .ok (.iadd, 1) := by decide +kernel
theorem dX12_exchange_118 : decode cX12_exchange 118 = .ok (.putfield 295, 3) := by decide +kernel
theorem dX12_exchange_121 : decode cX12_exchange 121 = .ok (.iconst 0, 1) := by decide +kernel
theorem dX12_exchange_122 : decode cX12_exchange 122 = .ok (.istore_n 2, 1) := by decide +kernel
theorem dX12_exchange_123 : decode cX12_exchange 123 = .ok (.iload_n 2, 1) := by decide +kernel
theorem dX12_exchange_124 : decode cX12_exchange 124 = .ok (.iload_n 1, 1) := by decide +kernel
theorem dX12_exchange_125 : decode cX12_exchange 125 = .ok (.if_icmp .ge 22, 3) := by decide +kernel
theorem dX12_exchange_128 : decode cX12_exchange 128 = .ok (.aload_n 0, 1) := by decide +kernel
theorem dX12_exchange_129 : decode cX12_exchange 129 = .ok (.sipush 431, 3) := by decide +kernel
theorem dX12_exchange_132 : decode cX12_exchange 132 = .ok (.iload_n 2, 1) := by decide +kernel
theorem dX12_exchange_133 : decode cX12_exchange 133 = .ok (.iadd, 1) := by decide +kernel
theorem dX12_exchange_134 : decode cX12_exchange 134 = .ok (.bipush 82, 2) := by decide +kernel
theorem dX12_exchange_136 : decode cX12_exchange 136 = .ok (.iload_n 2, 1) := by decide +kernel
theorem dX12_exchange_137 : decode cX12_exchange 137 = .ok (.iadd, 1) := by decide +kernel
theorem dX12_exchange_138 : decode cX12_exchange 138 = .ok (.invokevirtual 127, 3) := by decide +kernel
theorem dX12_exchange_141 : decode cX12_exchange 141 = .ok (.iinc 2 1, 3) := by decide +kernel
theorem dX12_exchange_144 : decode cX12_exchange 144 = .ok (.goto (-21), 3) := by decide +kernel
theorem dX12_exchange_147 : decode cX12_exchange 147 = .ok (.aload_n 0, 1) := by decide +kernel
theorem dX12_exchange_148 : decode cX12_exchange 148 = .ok (.iload_n 1, 1) := by decide +kernel
theorem dX12_exchange_149 : decode cX12_exchange 149 = .ok (.putfield 366, 3) := by decide +kernel
theorem dX12_exchange_152 : decode cX12_exchange 152 = .ok (.iconst 0, 1) := by decide +kernel
theorem dX12_exchange_153 : decode cX12_exchange 153 = .ok (.ireturn, 1) := by decide +kernel
theorem dX12_moveRight_0 : decode cX12_moveRight 0 = .ok (.aload_n 0, 1) := by decide +kernel
theorem dX12_moveRight_1 : decode cX12_moveRight 1 = .ok (.iconst 0, 1) := by decide +kernel
theorem dX12_moveRight_2 : decode cX12_moveRight 2 = .ok (.putfield 117, 3) := by decide +kernel
theorem dX12_moveRight_5 : decode cX12_moveRight 5 = .ok (.iconst 0, 1) := by decide +kernel
theorem dX12_moveRight_6 : decode cX12_moveRight 6 = .ok (.istore_n 3, 1) := by decide +kernel
theorem dX12_moveRight_7 : decode cX12_moveRight 7 = .ok (.iload_n 3, 1) := by decide +kernel
theorem dX12_moveRight_8 : decode cX12_moveRight 8 = .ok (.iload_n 2, 1) := by decide +kernel
theorem dX12_moveRight_9 : decode cX12_moveRight 9 = .ok (.if_icmp .ge 15, 3) := by decide +kernel
theorem dX12_moveRight_12 : decode cX12_moveRight 12 = .ok (.aload_n 0, 1) := by decide +kernel
theorem dX12_moveRight_13 : decode cX12_moveRight 13 = .ok (.bipush 32, 2) := by decide +kernel
theorem dX12_moveRight_15 : decode cX12_moveRight 15 = .ok (.invokevirtual 120, 3) := by decide +kernel
theorem dX12_moveRight_18 : decode cX12_moveRight 18 = .ok (.iinc 3 1, 3) := by decide +kernel
theorem dX12_moveRight_21 : decode cX12_moveRight 21 = .ok (.goto (-14), 3) := by decide +kernel
theorem dX12_moveRight_24 : decode cX12_moveRight 24 = .ok (.aload_n 0, 1) := by decide +kernel
theorem dX12_moveRight_25 : decode cX12_moveRight 25 = .ok (.iload_n 1, 1) := by decide +kernel
theorem dX12_moveRight_26 : decode cX12_moveRight 26 = .ok (.iconst 0, 1) := by decide +kernel
theorem dX12_moveRight_27 : decode cX12_moveRight 27 = .ok (.aload_n 0, 1) := by decide +kernel
theorem dX12_moveRight_28 : decode cX12_moveRight 28 = .ok (.iload_n 1, 1) := by decide +kernel
theorem dX12_moveRight_29 : decode cX12_moveRight 29 = .ok (.invokevirtual 109, 3) := by decide +kernel
theorem dX12_moveRight_32 : decode cX12_moveRight 32 = .ok (.invokevirtual 348, 3) := by decide +kernel
theorem dX12_moveRight_35 : decode cX12_moveRight 35 = .ok (.aload_n 0, 1) := by decide +kernel
theorem dX12_moveRight_36 : decode cX12_moveRight 36 = .ok (.iload_n 1, 1) := by decide +kernel
theorem dX12_moveRight_37 : decode cX12_moveRight 37 = .ok (.invokevirtual 329, 3) := by decide +kernel
theorem dX12_moveRight_40 : decode cX12_moveRight 40 = .ok (.ireturn, 1) := by decide +kernel
theorem dX12_moveLeft_0 : decode cX12_moveLeft 0 = .ok (.iconst 0, 1) := by decide +kernel
theorem dX12_moveLeft_1 : decode cX12_moveLeft 1 = .ok (.istore_n 3, 1) := by decide +kernel
theorem dX12_moveLeft_2 : decode cX12_moveLeft 2 = .ok (.iload_n 3, 1) := by decide +kernel
theorem dX12_moveLeft_3 : decode cX12_moveLeft 3 = .ok (.iload_n 2, 1) := by decide +kernel
theorem dX12_moveLeft_4 : decode cX12_moveLeft 4 = .ok (.if_icmp .ge 29, 3) := by decide +kernel
theorem dX12_moveLeft_7 : decode cX12_moveLeft 7 = .ok (.iload_n 3, 1) := by decide +kernel
theorem dX12_moveLeft_8 : decode cX12_moveLeft 8 = .ok (.aload_n 0, 1) := by decide +kernel
theorem dX12_moveLeft_9 : decode cX12_moveLeft 9 = .ok (.iload_n 1, 1) := by decide +kernel
theorem dX12_moveLeft_10 : decode cX12_moveLeft 10 = .ok (.invokevirtual 109, 3) := by decide +kernel
theorem dX12_moveLeft_13 : decode cX12_moveLeft 13 = .ok (.if_icmp .ge 20, 3) := by decide +kernel
theorem dX12_moveLeft_16 : decode cX12_moveLeft 16 = .ok (.aload_n 0, 1) := by decide +kernel
theorem dX12_moveLeft_17 : decode cX12_moveLeft 17 = .ok (.iload_n 1, 1) := by decide +kernel
theorem dX12_moveLeft_18 : decode cX12_moveLeft 18 = .ok (.iload_n 3, 1) := by decide +kernel
theorem dX12_moveLeft_19 : decode cX12_moveLeft 19 = .ok (.invokevirtual 113, 3) := by decide +kernel
theorem dX12_moveLeft_22 : decode cX12_moveLeft 22 = .ok (.bipush 32, 2) := by decide +kernel
theorem dX12_moveLeft_24 : decode cX12_moveLeft 24 = .ok (.if_icmp .ne 9, 3) := by decide +kernel
theorem dX12_moveLeft_27 : decode cX12_moveLeft 27 = .ok (.iinc 3 1, 3) := by decide +kernel
theorem dX12_moveLeft_30 : decode cX12_moveLeft 30 = .ok (.goto (-28), 3) := by decide +kernel
theorem dX12_moveLeft_33 : decode cX12_moveLeft 33 = .ok (.aload_n 0, 1) := by decide +kernel
theorem dX12_moveLeft_34 : decode cX12_moveLeft 34 = .ok (.iconst 0, 1) := by decide +kernel
theorem dX12_moveLeft_35 : decode cX12_moveLeft 35 = .ok (.putfield 117, 3) := by decide +kernel
theorem dX12_moveLeft_38 : decode cX12_moveLeft 38 = .ok (.aload_n 0, 1) := by decide +kernel
theorem dX12_moveLeft_39 : decode cX12_moveLeft 39 = .ok (.iload_n 1, 1) := by decide +kernel
theorem dX12_moveLeft_40 : decode cX12_moveLeft 40 = .ok (.iload_n 3, 1) := by decide +kernel
theorem dX12_moveLeft_41 : decode cX12_moveLeft 41 = .ok (.aload_n 0, 1) := by decide +kernel
theorem dX12_moveLeft_42 : decode cX12_moveLeft 42 = .ok (.iload_n 1, 1) := by decide +kernel
theorem dX12_moveLeft_43 : decode cX12_moveLeft 43 = .ok (.invokevirtual 109, 3) := by decide +kernel
theorem dX12_moveLeft_46 : decode cX12_moveLeft 46 = .ok (.invokevirtual 348, 3) := by decide +kernel
theorem dX12_moveLeft_49 : decode cX12_moveLeft 49 = .ok (.aload_n 0, 1) := by decide +kernel
theorem dX12_moveLeft_50 : decode cX12_moveLeft 50 = .ok (.iload_n 1, 1) := by decide +kernel
theorem dX12_moveLeft_51 : decode cX12_moveLeft 51 = .ok (.invokevirtual 329, 3) := by decide +kernel
theorem dX12_moveLeft_54 : decode cX12_moveLeft 54 = .ok (.pop, 1) := by decide +kernel
theorem dX12_moveLeft_55 : decode cX12_moveLeft 55 = .ok (.return_, 1) := by decide +kernel
theorem dX12_shift_0 : decode cX12_shift 0 = .ok (.aload_n 0, 1) := by decide +kernel
theorem dX12_shift_1 : decode cX12_shift 1 = .ok (.getfield 317, 3) := by decide +kernel
theorem dX12_shift_4 : decode cX12_shift 4 = .ok (.istore_n 3, 1) := by decide +kernel
theorem dX12_shift_5 : decode cX12_shift 5 = .ok (.iload_n 3, 1) := by decide +kernel
theorem dX12_shift_6 : decode cX12_shift 6 = .ok (.aload_n 0, 1) := by decide +kernel
theorem dX12_shift_7 : decode cX12_shift 7 = .ok (.getfield 320, 3) := by decide +kernel
theorem dX12_shift_10 : decode cX12_shift 10 = .ok (.if_icmp .gt 39, 3) := by decide +kernel
theorem dX12_shift_13 : decode cX12_shift 13 = .ok (.iload_n 2, 1) := by decide +kernel
theorem dX12_shift_14 : decode cX12_shift 14 = .ok (.ifCond .ne 15, 3) := by decide +kernel
theorem dX12_shift_17 : decode cX12_shift 17 = .ok (.aload_n 0, 1) := by decide +kernel
theorem dX12_shift_18 : decode cX12_shift 18 = .ok (.iload_n 3, 1) := by decide +kernel
theorem dX12_shift_19 : decode cX12_shift 19 = .ok (.invokestatic 298, 3) := by decide +kernel
theorem dX12_shift_22 : decode cX12_shift 22 = .ok (.iload_n 1, 1) := by decide +kernel
theorem dX12_shift_23 : decode cX12_shift 23 = .ok (.invokevirtual 369, 3) := by decide +kernel
theorem dX12_shift_26 : decode cX12_shift 26 = .ok (.goto 17, 3) := by decide +kernel
theorem dX12_shift_29 : decode cX12_shift 29 = .ok (.aload_n 0, 1) := by decide +kernel
theorem dX12_shift_30 : decode cX12_shift 30 = .ok (.iload_n 3, 1) := by decide +kernel
theorem dX12_shift_31 : decode cX12_shift 31 = .ok (.invokestatic 298, 3) := by decide +kernel
theorem dX12_shift_34 : decode cX12_shift 34 = .ok (.iload_n 1, 1) := by decide +kernel
theorem dX12_shift_35 : decode cX12_shift 35 = .ok (.invokevirtual 372, 3) := by decide +kernel
theorem dX12_shift_38 : decode cX12_shift 38 = .ok (.ifCond .ne 5, 3) := by decide +kernel
theorem dX12_shift_41 : decode cX12_shift 41 = .ok (.iconst 4, 1) := by decide +kernel
theorem dX12_shift_42 : decode cX12_shift 42 = .ok (.ireturn, 1) := by decide +kernel
theorem dX12_shift_43 : decode cX12_shift 43 = .ok (.iinc 3 1, 3) := by decide +kernel
theorem dX12_shift_46 : decode cX12_shift 46 = .ok (.goto (-41), 3) := by decide +kernel
theorem dX12_shift_49 : decode cX12_shift 49 = .ok (.aload_n 0, 1) := by decide +kernel
theorem dX12_shift_50 : decode cX12_shift 50 = .ok (.aload_n 0, 1) := by decide +kernel
theorem dX12_shift_51 : decode cX12_shift 51 = .ok (.getfield 320, 3) := by decide +kernel
theorem dX12_shift_54 : decode cX12_shift 54 = .ok (.putfield 295, 3) := by decide +kernel
theorem dX12_shift_57 : decode cX12_shift 57 = .ok (.iconst 0, 1) := by decide +kernel
theorem dX12_shift_58 : decode cX12_shift 58 = .ok (.ireturn, 1) := by decide +kernel
theorem dX12_compare_0 : decode cX12_compare 0 = .ok (.iload_n 3, 1) := by decide +kernel
theorem dX12_compare_1 : decode cX12_compare 1 = .ok (.istore 4, 2) := by decide +kernel
theorem dX12_compare_3 : decode cX12_compare 3 = .ok (.iload 4, 2) := by decide +kernel
theorem dX12_compare_5 : decode cX12_compare 5 = .ok (.aload_n 0, 1) := by decide +kernel
theorem dX12_compare_6 : decode cX12_compare 6 = .ok (.iload_n 1, 1) := by decide +kernel
theorem dX12_compare_7 : decode cX12_compare 7 = .ok (.invokevirtual 109, 3) := by decide +kernel
theorem dX12_compare_10 : decode cX12_compare 10 = .ok (.if_icmp .ge 36, 3) := by decide +kernel
theorem dX12_compare_13 : decode cX12_compare 13 = .ok (.iload 4, 2) := by decide +kernel
theorem dX12_compare_15 : decode cX12_compare 15 = .ok (.aload_n 0, 1) := by decide +kernel
theorem dX12_compare_16 : decode cX12_compare 16 = .ok (.iload_n 2, 1) := by decide +kernel
theorem dX12_compare_17 : decode cX12_compare 17 = .ok (.invokevirtual 109, 3) := by decide +kernel
theorem dX12_compare_20 : decode cX12_compare 20 = .ok (.if_icmp .ge 26, 3) := by decide +kernel
theorem dX12_compare_23 : decode cX12_compare 23 = .ok (.aload_n 0, 1) := by decide +kernel
theorem dX12_compare_24 : decode cX12_compare 24 = .ok (.iload_n 1, 1) := by decide +kernel
theorem dX12_compare_25 : decode cX12_compare 25 = .ok (.iload 4, 2) := by decide +kernel
theorem dX12_compare_27 : decode cX12_compare 27 = .ok (.invokevirtual 113, 3) := by decide +kernel
theorem dX12_compare_30 : decode cX12_compare 30 = .ok (.aload_n 0, 1) := by decide +kernel
theorem dX12_compare_31 : decode cX12_compare 31 = .ok (.iload_n 2, 1) := by decide +kernel
theorem dX12_compare_32 : decode cX12_compare 32 = .ok (.iload 4, 2) := by decide +kernel
theorem dX12_compare_34 : decode cX12_compare 34 = .ok (.invokevirtual 113, 3) := by decide +kernel
theorem dX12_compare_37 : decode cX12_compare 37 = .ok (.if_icmp .ne 9, 3) := by decide +kernel
theorem dX12_compare_40 : decode cX12_compare 40 = .ok (.iinc 4 1, 3) := by decide +kernel
theorem dX12_compare_43 : decode cX12_compare 43 = .ok (.goto (-40), 3) := by decide +kernel
theorem dX12_compare_46 : decode cX12_compare 46 = .ok (.iload 4, 2) := by decide +kernel
theorem dX12_compare_48 : decode cX12_compare 48 = .ok (.aload_n 0, 1) := by decide +kernel
theorem dX12_compare_49 : decode cX12_compare 49 = .ok (.iload_n 1, 1) := by decide +kernel
theorem dX12_compare_50 : decode cX12_compare 50 = .ok (.invokevirtual 109, 3) := by decide +kernel
theorem dX12_compare_53 : decode cX12_compare 53 = .ok (.if_icmp .ge 13, 3) := by decide +kernel
theorem dX12_compare_56 : decode cX12_compare 56 = .ok (.aload_n 0, 1) := by decide +kernel
theorem dX12_compare_57 : decode cX12_compare 57 = .ok (.iload_n 1, 1) := by decide +kernel
theorem dX12_compare_58 : decode cX12_compare 58 = .ok (.iload 4, 2) := by decide +kernel
theorem dX12_compare_60 : decode cX12_compare 60 = .ok (.invokevirtual 113, 3) := by decide +kernel
theorem dX12_compare_63 : decode cX12_compare 63 = .ok (.goto 4, 3) := by decide +kernel
theorem dX12_compare_66 : decode cX12_compare 66 = .ok (.iconst 0, 1) := by decide +kernel
theorem dX12_compare_67 : decode cX12_compare 67 = .ok (.istore 5, 2) := by decide +kernel
theorem dX12_compare_69 : decode cX12_compare 69 = .ok (.iload 4, 2) := by decide +kernel
theorem dX12_compare_71 : decode cX12_compare 71 = .ok (.aload_n 0, 1) := by decide +kernel
theorem dX12_compare_72 : decode cX12_compare 72 = .ok (.iload_n 2, 1) := by decide +kernel
theorem dX12_compare_73 : decode cX12_compare 73 = .ok (.invokevirtual 109, 3) := by decide +kernel
theorem dX12_compare_76 : decode cX12_compare 76 = .ok (.if_icmp .ge 13, 3) := by decide +kernel
theorem dX12_compare_79 : decode cX12_compare 79 = .ok (.aload_n 0, 1) := by decide +kernel
theorem dX12_compare_80 : decode cX12_compare 80 = .ok (.iload_n 2, 1) := by decide +kernel
theorem dX12_compare_81 : decode cX12_compare 81 = .ok (.iload 4, 2) := by decide +kernel
theorem dX12_compare_83 : decode cX12_compare 83 = .ok (.invokevirtual 113, 3) := by decide +kernel
theorem dX12_compare_86 : decode cX12_compare 86 = .ok (.goto 4, 3) := by decide +kernel
theorem dX12_compare_89 : decode cX12_compare 89 = .ok (.iconst 0, 1) := by decide +kernel
theorem dX12_compare_90 : decode cX12_compare 90 = .ok (.istore 6, 2) := by decide +kernel
theorem dX12_compare_92 : decode cX12_compare 92 = .ok (.iload 5, 2) := by decide +kernel
theorem dX12_compare_94 : decode cX12_compare 94 = .ok (.iload 6, 2) := by decide +kernel
theorem dX12_compare_96 : decode cX12_compare 96 = .ok (.isub, 1) := by decide +kernel
theorem dX12_compare_97 : decode cX12_compare 97 = .ok (.ireturn, 1) := by decide +kernel
theorem dX12_sort_0 : decode cX12_sort 0 = .ok (.aload_n 0, 1) := by decide +kernel
theorem dX12_sort_1 : decode cX12_sort 1 = .ok (.getfield 317, 3) := by decide +kernel
theorem dX12_sort_4 : decode cX12_sort 4 = .ok (.iconst 1, 1) := by decide +kernel
theorem dX12_sort_5 : decode cX12_sort 5 = .ok (.iadd, 1) := by decide +kernel
theorem dX12_sort_6 : decode cX12_sort 6 = .ok (.istore_n 3, 1) := by decide +kernel
theorem dX12_sort_7 : decode cX12_sort 7 = .ok (.iload_n 3, 1) := by decide +kernel
theorem dX12_sort_8 : decode cX12_sort 8 = .ok (.aload_n 0, 1) := by decide +kernel
theorem dX12_sort_9 : decode cX12_sort 9 = .ok (.getfield 320, 3) := by decide +kernel
theorem dX12_sort_12 : decode cX12_sort 12 = .ok (.if_icmp .gt 148, 3) := by decide +kernel
theorem dX12_sort_15 : decode cX12_sort 15 = .ok (.aload_n 0, 1) := by decide +kernel
theorem dX12_sort_16 : decode cX12_sort 16 = .ok (.iload_n 3, 1) := by decide +kernel
theorem dX12_sort_17 : decode cX12_sort 17 = .ok (.invokestatic 298, 3) := by decide +kernel
theorem dX12_sort_20 : decode cX12_sort 20 = .ok (.sipush 429, 3) := by decide +kernel
theorem dX12_sort_23 : decode cX12_sort 23 = .ok (.invokevirtual 127, 3) := by decide +kernel
theorem dX12_sort_26 : decode cX12_sort 26 = .ok (.aload_n 0, 1) := by decide +kernel
theorem dX12_sort_27 : decode cX12_sort 27 = .ok (.getfield 26, 3) := by decide +kernel
theorem dX12_sort_30 : decode cX12_sort 30 = .ok (.iload_n 3, 1) := by decide +kernel
theorem dX12_sort_31 : decode cX12_sort 31 = .ok (.iconst 1, 1) := by decide +kernel
theorem dX12_sort_32 : decode cX12_sort 32 = .ok (.isub, 1) := by decide +kernel
theorem dX12_sort_33 : decode cX12_sort 33 = .ok (.iaload, 1) := by decide +kernel
theorem dX12_sort_34 : decode cX12_sort 34 = .ok (.istore 4, 2) := by decide +kernel
theorem dX12_sort_36 : decode cX12_sort 36 = .ok (.iload_n 3, 1) := by decide +kernel
theorem dX12_sort_37 : decode cX12_sort 37 = .ok (.istore 5, 2) := by decide +kernel
theorem dX12_sort_39 : decode cX12_sort 39 = .ok (.iload 5, 2) := by decide +kernel
theorem dX12_sort_41 : decode cX12_sort 41 = .ok (.aload_n 0, 1) := by decide +kernel
theorem dX12_sort_42 : decode cX12_sort 42 = .ok (.getfield 317, 3) := by decide +kernel
theorem dX12_sort_45 : decode cX12_sort 45 = .ok (.if_icmp .le 86, 3) := by decide +kernel
theorem dX12_sort_48 : decode cX12_sort 48 = .ok (.iload_n 2, 1) := by decide +kernel
theorem dX12_sort_49 : decode cX12_sort 49 = .ok (.ifCond .eq 24, 3) := by decide +kernel
theorem dX12_sort_52 : decode cX12_sort 52 = .ok (.aload_n 0, 1) := by decide +kernel
theorem dX12_sort_53 : decode cX12_sort 53 = .ok (.iload 5, 2) := by decide +kernel
theorem dX12_sort_55 : decode cX12_sort 55 = .ok (.iconst 1, 1) := by decide +kernel
theorem dX12_sort_56 : decode cX12_sort 56 = .ok (.isub, 1) := by decide +kernel
theorem dX12_sort_57 : decode cX12_sort 57 = .ok (.invokestatic 298, 3) := by decide +kernel
theorem dX12_sort_60 : decode cX12_sort 60 = .ok (.sipush 429, 3) := by decide +kernel
theorem dX12_sort_63 : decode cX12_sort 63 = .ok (.iload_n 1, 1) := by decide +kernel
theorem dX12_sort_64 : decode cX12_sort 64 = .ok (.invokevirtual 375, 3) := by decide +kernel
theorem dX12_sort_67 : decode cX12_sort 67 = .ok (.ifCond .le 64, 3) := by decide +kernel
theorem dX12_sort_70 : decode cX12_sort 70 = .ok (.goto 21, 3) := by decide +kernel
theorem dX12_sort_73 : decode cX12_sort 73 = .ok (.aload_n 0, 1) := by decide +kernel
theorem dX12_sort_74 : decode cX12_sort 74 = .ok (.iload 5, 2) := by decide +kernel
theorem dX12_sort_76 : decode cX12_sort 76 = .ok (.iconst 1, 1) := by decide +kernel
theorem dX12_sort_77 : decode cX12_sort 77 = .ok (.isub, 1) := by decide +kernel
theorem dX12_sort_78 : decode cX12_sort 78 = .ok (.invokestatic 298, 3) := by decide +kernel
theorem dX12_sort_81 : decode cX12_sort 81 = .ok (.sipush 429, 3) := by decide +kernel
theorem dX12_sort_84 : decode cX12_sort 84 = .ok (.iload_n 1, 1) := by decide +kernel
theorem dX12_sort_85 : decode cX12_sort 85 = .ok (.invokevirtual 375, 3) := by decide +kernel
theorem dX12_sort_88 : decode cX12_sort 88 = .ok (.ifCond .ge 43, 3) := by decide +kernel
theorem dX12_sort_91 : decode cX12_sort 91 = .ok (.aload_n 0, 1) := by decide +kernel
theorem dX12_sort_92 : decode cX12_sort 92 = .ok (.iload 5, 2) := by decide +kernel
theorem dX12_sort_94 : decode cX12_sort 94 = .ok (.iconst 1, 1) := by decide +kernel
theorem dX12_sort_95 : decode cX12_sort 95 = .ok (.isub, 1) := by decide +kernel
theorem dX12_sort_96 : decode cX12_sort 96 = .ok (.invokestatic 298, 3) := by decide +kernel
theorem dX12_sort_99 : decode cX12_sort 99 = .ok (.iload 5, 2) := by decide +kernel
theorem dX12_sort_101 : decode cX12_sort 101 = .ok (.invokestatic 298, 3) := by decide +kernel
theorem dX12_sort_104 : decode cX12_sort 104 = .ok (.invokevirtual 127, 3) := by decide +kernel
theorem dX12_sort_107 : decode cX12_sort 107 = .ok (.aload_n 0, 1) := by decide +kernel
theorem dX12_sort_108 : decode cX12_sort 108 = .ok (.getfield 26, 3) := by decide +kernel
theorem dX12_sort_111 : decode cX12_sort 111 = .ok (.iload 5, 2) := by decide +kernel
theorem dX12_sort_113 : decode cX12_sort 113 = .ok (.iconst 1, 1) := by decide +kernel
theorem dX12_sort_114 : decode cX12_sort 114 = .ok (.isub, 1) := by decide +kernel
theorem dX12_sort_115 : decode cX12_sort 115 = .ok (.aload_n 0, 1) := by decide +kernel
theorem dX12_sort_116 : decode cX12_sort 116 = .ok (.getfield 26, 3) := by decide +kernel
theorem dX12_sort_119 : decode cX12_sort 119 = .ok (.iload 5, 2) := by decide +kernel
theorem dX12_sort_121 : decode cX12_sort 121 = .ok (.iconst 2, 1) := by decide +kernel
theorem dX12_sort_122 : decode cX12_sort 122 = .ok (.isub, 1) := by decide +kernel
theorem dX12_sort_123 : decode cX12_sort 123 = .ok (.iaload, 1) := by decide +kernel
theorem dX12_sort_124 : decode cX12_sort 124 = .ok (.iastore, 1) := by decide +kernel
theorem dX12_sort_125 : decode cX12_sort 125 = .ok (.iinc 5 (-1), 3) := by decide +kernel
theorem dX12_sort_128 : decode cX12_sort 128 = .ok (.goto (-89), 3) := by decide +kernel
theorem dX12_sort_131 : decode cX12_sort 131 = .ok (.aload_n 0, 1) := by decide +kernel
theorem dX12_sort_132 : decode cX12_sort 132 = .ok (.sipush 429, 3) := by decide +kernel
theorem dX12_sort_135 : decode cX12_sort 135 = .ok (.iload 5, 2) := by decide +kernel
theorem dX12_sort_137 : decode cX12_sort 137 = .ok (.invokestatic 298, 3) := by decide +kernel
theorem dX12_sort_140 : decode cX12_sort 140 = .ok (.invokevirtual 127, 3) := by decide +kernel
theorem dX12_sort_143 : decode cX12_sort 143 = .ok (.aload_n 0, 1) := by decide +kernel
theorem dX12_sort_144 : decode cX12_sort 144 = .ok (.getfield 26, 3) := by decide +kernel
theorem dX12_sort_147 : decode cX12_sort 147 = .ok (.iload 5, 2) := by decide +kernel
theorem dX12_sort_149 : decode cX12_sort 149 = .ok (.iconst 1, 1) := by decide +kernel
theorem dX12_sort_150 : decode cX12_sort 150 = .ok (.isub, 1) := by decide +kernel
theorem dX12_sort_151 : decode cX12_sort 151 = .ok (.iload 4, 2) := by decide +kernel
theorem dX12_sort_153 : decode cX12_sort 153 = .ok (.iastore, 1) := by decide +kernel
theorem dX12_sort_154 : decode cX12_sort 154 = .ok (.iinc 3 1, 3) := by decide +kernel
theorem dX12_sort_157 : decode cX12_sort 157 = .ok (.goto (-150), 3) := by decide +kernel
theorem dX12_sort_160 : decode cX12_sort 160 = .ok (.aload_n 0, 1) := by decide +kernel
theorem dX12_sort_161 : decode cX12_sort 161 = .ok (.aload_n 0, 1) := by decide +kernel
theorem dX12_sort_162 : decode cX12_sort 162 = .ok (.getfield 320, 3) := by decide +kernel
theorem dX12_sort_165 : decode cX12_sort 165 = .ok (.putfield 295, 3) := by decide +kernel
theorem dX12_sort_168 : decode cX12_sort 168 = .ok (.iconst 0, 1) := by decide +kernel
theorem dX12_sort_169 : decode cX12_sort 169 = .ok (.ireturn, 1) := by decide +kernel
theorem dX12_move_0 : decode cX12_move 0 = .ok (.aload_n 0, 1) := by decide +kernel
theorem dX12_move_1 : decode cX12_move 1 = .ok (.iload_n 1, 1) := by decide +kernel
theorem dX12_move_2 : decode cX12_move 2 = .ok (.invokevirtual 323, 3) := by decide +kernel
theorem dX12_move_5 : decode cX12_move 5 = .ok (.istore_n 2, 1) := by decide +kernel
theorem dX12_move_6 : decode cX12_move 6 = .ok (.iload_n 2, 1) := by decide +kernel
theorem dX12_move_7 : decode cX12_move 7 = .ok (.ifCond .ge 6, 3) := by decide +kernel
theorem dX12_move_10 : decode cX12_move 10 = .ok (.iload_n 2, 1) := by decide +kernel
theorem dX12_move_11 : decode cX12_move 11 = .ok (.ineg, 1) := by decide +kernel
theorem dX12_move_12 : decode cX12_move 12 = .ok (.ireturn, 1) := by decide +kernel
theorem dX12_move_13 : decode cX12_move 13 = .ok (.aload_n 0, 1) := by decide +kernel
theorem dX12_move_14 : decode cX12_move 14 = .ok (.getfield 320, 3) := by decide +kernel
theorem dX12_move_17 : decode cX12_move 17 = .ok (.aload_n 0, 1) := by decide +kernel
theorem dX12_move_18 : decode cX12_move 18 = .ok (.getfield 317, 3) := by decide +kernel
theorem dX12_move_21 : decode cX12_move 21 = .ok (.isub, 1) := by decide +kernel
theorem dX12_move_22 : decode cX12_move 22 = .ok (.iconst 1, 1) := by decide +kernel
theorem dX12_move_23 : decode cX12_move 23 = .ok (.iadd, 1) := by decide +kernel
theorem dX12_move_24 : decode cX12_move 24 = .ok (.istore_n 3, 1) := by decide +kernel
theorem dX12_move_25 : decode cX12_move 25 = .ok (.iload_n 2, 1) := by decide +kernel
theorem dX12_move_26 : decode cX12_move 26 = .ok (.aload_n 0, 1) := by decide +kernel
theorem dX12_move_27 : decode cX12_move 27 = .ok (.getfield 317, 3) := by decide +kernel
theorem dX12_move_30 : decode cX12_move 30 = .ok (.if_icmp .lt 13, 3) := by decide +kernel
theorem dX12_move_33 : decode cX12_move 33 = .ok (.iload_n 2, 1) := by decide +kernel
theorem dX12_move_34 : decode cX12_move 34 = .ok (.aload_n 0, 1) := by decide +kernel
theorem dX12_move_35 : decode cX12_move 35 = .ok (.getfield 320, 3) := by decide +kernel
theorem dX12_move_38 : decode cX12_move 38 = .ok (.if_icmp .ge 5, 3) := by decide +kernel
theorem dX12_move_41 : decode cX12_move 41 = .ok (.iconst 1, 1) := by decide +kernel
theorem dX12_move_42 : decode cX12_move 42 = .ok (.ireturn, 1) := by decide +kernel
theorem dX12_move_43 : decode cX12_move 43 = .ok (.iconst 0, 1) := by decide +kernel
theorem dX12_move_44 : decode cX12_move 44 = .ok (.istore 4, 2) := by decide +kernel
theorem dX12_move_46 : decode cX12_move 46 = .ok (.iload 4, 2) := by decide +kernel
theorem dX12_move_48 : decode cX12_move 48 = .ok (.iload_n 3, 1) := by decide +kernel
theorem dX12_move_49 : decode cX12_move 49 = .ok (.if_icmp .ge 50, 3) := by decide +kernel
theorem dX12_move_52 : decode cX12_move 52 = .ok (.aload_n 0, 1) := by decide +kernel
theorem dX12_move_53 : decode cX12_move 53 = .ok (.aload_n 0, 1) := by decide +kernel
theorem dX12_move_54 : decode cX12_move 54 = .ok (.getfield 317, 3) := by decide +kernel
theorem dX12_move_57 : decode cX12_move 57 = .ok (.iload 4, 2) := by decide +kernel
theorem dX12_move_59 : decode cX12_move 59 = .ok (.iadd, 1) := by decide +kernel
theorem dX12_move_60 : decode cX12_move 60 = .ok (.invokestatic 298, 3) := by decide +kernel
theorem dX12_move_63 : decode cX12_move 63 = .ok (.sipush 431, 3) := by decide +kernel
theorem dX12_move_66 : decode cX12_move 66 = .ok (.iload 4, 2) := by decide +kernel
theorem dX12_move_68 : decode cX12_move 68 = .ok (.iadd, 1) := by decide +kernel
theorem dX12_move_69 : decode cX12_move 69 = .ok (.invokevirtual 127, 3) := by decide +kernel
theorem dX12_move_72 : decode cX12_move 72 = .ok (.aload_n 0, 1) := by decide +kernel
theorem dX12_move_73 : decode cX12_move 73 = .ok (.getfield 32, 3) := by decide +kernel
theorem dX12_move_76 : decode cX12_move 76 = .ok (.iload 4, 2) := by decide +kernel
theorem dX12_move_78 : decode cX12_move 78 = .ok (.aload_n 0, 1) := by decide +kernel
theorem dX12_move_79 : decode cX12_move 79 = .ok (.getfield 26, 3) := by decide +kernel
theorem dX12_move_82 : decode cX12_move 82 = .ok (.aload_n 0, 1) := by decide +kernel
theorem dX12_move_83 : decode cX12_move 83 = .ok (.getfield 317, 3) := by decide +kernel
theorem dX12_move_86 : decode cX12_move 86 = .ok (.iload 4, 2) := by decide +kernel
theorem dX12_move_88 : decode cX12_move 88 = .ok (.iadd, 1) := by decide +kernel
theorem dX12_move_89 : decode cX12_move 89 = .ok (.iconst 1, 1) := by decide +kernel
theorem dX12_move_90 : decode cX12_move 90 = .ok (.isub, 1) := by decide +kernel
theorem dX12_move_91 : decode cX12_move 91 = .ok (.iaload, 1) := by decide +kernel
theorem dX12_move_92 : decode cX12_move 92 = .ok (.iastore, 1) := by decide +kernel
theorem dX12_move_93 : decode cX12_move 93 = .ok (.iinc 4 1, 3) := by decide +kernel
theorem dX12_move_96 : decode cX12_move 96 = .ok (.goto (-50), 3) := by decide +kernel
theorem dX12_move_99 : decode cX12_move 99 = .ok (.iconst 0, 1) := by decide +kernel
theorem dX12_move_100 : decode cX12_move 100 = .ok (.istore 4, 2) := by decide +kernel
theorem dX12_move_102 : decode cX12_move 102 = .ok (.iload 4, 2) := by decide +kernel
theorem dX12_move_104 : decode cX12_move 104 = .ok (.iload_n 3, 1) := by decide +kernel
theorem dX12_move_105 : decode cX12_move 105 = .ok (.if_icmp .ge 17, 3) := by decide +kernel
theorem dX12_move_108 : decode cX12_move 108 = .ok (.aload_n 0, 1) := by decide +kernel
theorem dX12_move_109 : decode cX12_move 109 = .ok (.aload_n 0, 1) := by decide +kernel
theorem dX12_move_110 : decode cX12_move 110 = .ok (.getfield 317, 3) := by decide +kernel
theorem dX12_move_113 : decode cX12_move 113 = .ok (.invokevirtual 140, 3) := by decide +kernel
theorem dX12_move_116 : decode cX12_move 116 = .ok (.iinc 4 1, 3) := by decide +kernel
theorem dX12_move_119 : decode cX12_move 119 = .ok (.goto (-17), 3) := by decide +kernel
theorem dX12_move_122 : decode cX12_move 122 = .ok (.iload_n 2, 1) := by decide +kernel
theorem dX12_move_123 : decode cX12_move 123 = .ok (.aload_n 0, 1) := by decide +kernel
theorem dX12_move_124 : decode cX12_move 124 = .ok (.getfield 317, 3) := by decide +kernel
theorem dX12_move_127 : decode cX12_move 127 = .ok (.if_icmp .ge 7, 3) := by decide +kernel
theorem dX12_move_130 : decode cX12_move 130 = .ok (.iload_n 2, 1) := by decide +kernel
theorem dX12_move_131 : decode cX12_move 131 = .ok (.goto 6, 3) := by decide +kernel
theorem dX12_move_134 : decode cX12_move 134 = .ok (.iload_n 2, 1) := by decide +kernel
theorem dX12_move_135 : decode cX12_move 135 = .ok (.iload_n 3, 1) := by decide +kernel
theorem dX12_move_136 : decode cX12_move 136 = .ok (.isub, 1) := by decide +kernel
theorem dX12_move_137 : decode cX12_move 137 = .ok (.istore 4, 2) := by decide +kernel
theorem dX12_move_139 : decode cX12_move 139 = .ok (.iconst 0, 1) := by decide +kernel
theorem dX12_move_140 : decode cX12_move 140 = .ok (.istore 5, 2) := by decide +kernel
theorem dX12_move_142 : decode cX12_move 142 = .ok (.iload 5, 2) := by decide +kernel
theorem dX12_move_144 : decode cX12_move 144 = .ok (.iload_n 3, 1) := by decide +kernel
theorem dX12_move_145 : decode cX12_move 145 = .ok (.if_icmp .ge 52, 3) := by decide +kernel
theorem dX12_move_148 : decode cX12_move 148 = .ok (.aload_n 0, 1) := by decide +kernel
theorem dX12_move_149 : decode cX12_move 149 = .ok (.iload 4, 2) := by decide +kernel
theorem dX12_move_151 : decode cX12_move 151 = .ok (.iload 5, 2) := by decide +kernel
theorem dX12_move_153 : decode cX12_move 153 = .ok (.iadd, 1) := by decide +kernel
theorem dX12_move_154 : decode cX12_move 154 = .ok (.invokevirtual 131, 3) := by decide +kernel
theorem dX12_move_157 : decode cX12_move 157 = .ok (.aload_n 0, 1) := by decide +kernel
theorem dX12_move_158 : decode cX12_move 158 = .ok (.sipush 431, 3) := by decide +kernel
theorem dX12_move_161 : decode cX12_move 161 = .ok (.iload 5, 2) := by decide +kernel
theorem dX12_move_163 : decode cX12_move 163 = .ok (.iadd, 1) := by decide +kernel
theorem dX12_move_164 : decode cX12_move 164 = .ok (.iconst 0, 1) := by decide +kernel
theorem dX12_move_165 : decode cX12_move 165 = .ok (.iload 4, 2) := by decide +kernel
theorem dX12_move_167 : decode cX12_move 167 = .ok (.iadd, 1) := by decide +kernel
theorem dX12_move_168 : decode cX12_move 168 = .ok (.iload 5, 2) := by decide +kernel
theorem dX12_move_170 : decode cX12_move 170 = .ok (.iadd, 1) := by decide +kernel
theorem dX12_move_171 : decode cX12_move 171 = .ok (.invokevirtual 127, 3) := by decide +kernel
theorem dX12_move_174 : decode cX12_move 174 = .ok (.aload_n 0, 1) := by decide +kernel
theorem dX12_move_175 : decode cX12_move 175 = .ok (.getfield 26, 3) := by decide +kernel
theorem dX12_move_178 : decode cX12_move 178 = .ok (.iload 4, 2) := by decide +kernel
theorem dX12_move_180 : decode cX12_move 180 = .ok (.iload 5, 2) := by decide +kernel
theorem dX12_move_182 : decode cX12_move 182 = .ok (.iadd, 1) := by decide +kernel
theorem dX12_move_183 : decode cX12_move 183 = .ok (.aload_n 0, 1) := by decide +kernel
theorem dX12_move_184 : decode cX12_move 184 = .ok (.getfield 32, 3) := by decide +kernel
theorem dX12_move_187 : decode cX12_move 187 = .ok (.iload 5, 2) := by decide +kernel
theorem dX12_move_189 : decode cX12_move 189 = .ok (.iaload, 1) := by decide +kernel
theorem dX12_move_190 : decode cX12_move 190 = .ok (.iastore, 1) := by decide +kernel
theorem dX12_move_191 : decode cX12_move 191 = .ok (.iinc 5 1, 3) := by decide +kernel
theorem dX12_move_194 : decode cX12_move 194 = .ok (.goto (-52), 3) := by decide +kernel
theorem dX12_move_197 : decode cX12_move 197 = .ok (.aload_n 0, 1) := by decide +kernel
theorem dX12_move_198 : decode cX12_move 198 = .ok (.iload 4, 2) := by decide +kernel
theorem dX12_move_200 : decode cX12_move 200 = .ok (.iload_n 3, 1) := by decide +kernel
theorem dX12_move_201 : decode cX12_move 201 = .ok (.iadd, 1) := by decide +kernel
theorem dX12_move_202 : decode cX12_move 202 = .ok (.putfield 295, 3) := by decide +kernel
theorem dX12_move_205 : decode cX12_move 205 = .ok (.iconst 0, 1) := by decide +kernel
theorem dX12_move_206 : decode cX12_move 206 = .ok (.ireturn, 1) := by decide +kernel
theorem dX12_copyTo_0 : decode cX12_copyTo 0 = .ok (.aload_n 0, 1) := by decide +kernel
theorem dX12_copyTo_1 : decode cX12_copyTo 1 = .ok (.iload_n 1, 1) := by decide +kernel
theorem dX12_copyTo_2 : decode cX12_copyTo 2 = .ok (.invokevirtual 323, 3) := by decide +kernel
theorem dX12_copyTo_5 : decode cX12_copyTo 5 = .ok (.istore_n 2, 1) := by decide +kernel
theorem dX12_copyTo_6 : decode cX12_copyTo 6 = .ok (.iload_n 2, 1) := by decide +kernel
theorem dX12_copyTo_7 : decode cX12_copyTo 7 = .ok (.ifCond .ge 6, 3) := by decide +kernel
theorem dX12_copyTo_10 : decode cX12_copyTo 10 = .ok (.iload_n 2, 1) := by decide +kernel
theorem dX12_copyTo_11 : decode cX12_copyTo 11 = .ok (.ineg, 1) := by decide +kernel
theorem dX12_copyTo_12 : decode cX12_copyTo 12 = .ok (.ireturn, 1) := by decide +kernel
theorem dX12_copyTo_13 : decode cX12_copyTo 13 = .ok (.aload_n 0, 1) := by decide +kernel
theorem dX12_copyTo_14 : decode cX12_copyTo 14 = .ok (.getfield 320, 3) := by decide +kernel
theorem dX12_copyTo_17 : decode cX12_copyTo 17 = .ok (.aload_n 0, 1) := by decide +kernel
theorem dX12_copyTo_18 : decode cX12_copyTo 18 = .ok (.getfield 317, 3) := by decide +kernel
theorem dX12_copyTo_21 : decode cX12_copyTo 21 = .ok (.isub, 1) := by decide +kernel
theorem dX12_copyTo_22 : decode cX12_copyTo 22 = .ok (.iconst 1, 1) := by decide +kernel
theorem dX12_copyTo_23 : decode cX12_copyTo 23 = .ok (.iadd, 1) := by decide +kernel
theorem dX12_copyTo_24 : decode cX12_copyTo 24 = .ok (.istore_n 3, 1) := by decide +kernel
theorem dX12_copyTo_25 : decode cX12_copyTo 25 = .ok (.aload_n 0, 1) := by decide +kernel
theorem dX12_copyTo_26 : decode cX12_copyTo 26 = .ok (.getfield 124, 3) := by decide +kernel
theorem dX12_copyTo_29 : decode cX12_copyTo 29 = .ok (.iload_n 3, 1) := by decide +kernel
theorem dX12_copyTo_30 : decode cX12_copyTo 30 = .ok (.iadd, 1) := by decide +kernel
theorem dX12_copyTo_31 : decode cX12_copyTo 31 = .ok (.bipush 40, 2) := by decide +kernel
theorem dX12_copyTo_33 : decode cX12_copyTo 33 = .ok (.if_icmp .le 5, 3) := by decide +kernel
theorem dX12_copyTo_36 : decode cX12_copyTo 36 = .ok (.iconst 4, 1) := by decide +kernel
theorem dX12_copyTo_37 : decode cX12_copyTo 37 = .ok (.ireturn, 1) := by decide +kernel
theorem dX12_copyTo_38 : decode cX12_copyTo 38 = .ok (.iconst 0, 1) := by decide +kernel
theorem dX12_copyTo_39 : decode cX12_copyTo 39 = .ok (.istore 4, 2) := by decide +kernel
theorem dX12_copyTo_41 : decode cX12_copyTo 41 = .ok (.iload 4, 2) := by decide +kernel
theorem dX12_copyTo_43 : decode cX12_copyTo 43 = .ok (.iload_n 3, 1) := by decide +kernel
theorem dX12_copyTo_44 : decode cX12_copyTo 44 = .ok (.if_icmp .ge 29, 3) := by decide +kernel
theorem dX12_copyTo_47 : decode cX12_copyTo 47 = .ok (.aload_n 0, 1) := by decide +kernel
theorem dX12_copyTo_48 : decode cX12_copyTo 48 = .ok (.aload_n 0, 1) := by decide +kernel
theorem dX12_copyTo_49 : decode cX12_copyTo 49 = .ok (.getfield 317, 3) := by decide +kernel
theorem dX12_copyTo_52 : decode cX12_copyTo 52 = .ok (.iload 4, 2) := by decide +kernel
theorem dX12_copyTo_54 : decode cX12_copyTo 54 = .ok (.iadd, 1) := by decide +kernel
theorem dX12_copyTo_55 : decode cX12_copyTo 55 = .ok (.invokestatic 298, 3) := by decide +kernel
theorem dX12_copyTo_58 : decode cX12_copyTo 58 = .ok (.sipush 431, 3) := by decide +kernel
theorem dX12_copyTo_61 : decode cX12_copyTo 61 = .ok (.iload 4, 2) := by decide +kernel
theorem dX12_copyTo_63 : decode cX12_copyTo 63 = .ok (.iadd, 1) := by decide +kernel
theorem dX12_copyTo_64 : decode cX12_copyTo 64 = .ok (.invokevirtual 127, 3) := by decide +kernel
theorem dX12_copyTo_67 : decode cX12_copyTo 67 = .ok (.iinc 4 1, 3) := by decide +kernel
theorem dX12_copyTo_70 : decode cX12_copyTo 70 = .ok (.goto (-29), 3) := by decide +kernel
theorem dX12_copyTo_73 : decode cX12_copyTo 73 = .ok (.iconst 0, 1) := by decide +kernel
theorem dX12_copyTo_74 : decode cX12_copyTo 74 = .ok (.istore 4, 2) := by decide +kernel
theorem dX12_copyTo_76 : decode cX12_copyTo 76 = .ok (.iload 4, 2) := by decide +kernel
theorem dX12_copyTo_78 : decode cX12_copyTo 78 = .ok (.iload_n 3, 1) := by decide +kernel
theorem dX12_copyTo_79 : decode cX12_copyTo 79 = .ok (.if_icmp .ge 23, 3) := by decide +kernel
theorem dX12_copyTo_82 : decode cX12_copyTo 82 = .ok (.aload_n 0, 1) := by decide +kernel
theorem dX12_copyTo_83 : decode cX12_copyTo 83 = .ok (.sipush 431, 3) := by decide +kernel
theorem dX12_copyTo_86 : decode cX12_copyTo 86 = .ok (.iload 4, 2) := by decide +kernel
theorem dX12_copyTo_88 : decode cX12_copyTo 88 = .ok (.iadd, 1) := by decide +kernel
theorem dX12_copyTo_89 : decode cX12_copyTo 89 = .ok (.iload_n 2, 1) := by decide +kernel
theorem dX12_copyTo_90 : decode cX12_copyTo 90 = .ok (.iload 4, 2) := by decide +kernel
theorem dX12_copyTo_92 : decode cX12_copyTo 92 = .ok (.iadd, 1) := by decide +kernel
theorem dX12_copyTo_93 : decode cX12_copyTo 93 = .ok (.invokevirtual 332, 3) := by decide +kernel
theorem dX12_copyTo_96 : decode cX12_copyTo 96 = .ok (.iinc 4 1, 3) := by decide +kernel
theorem dX12_copyTo_99 : decode cX12_copyTo 99 = .ok (.goto (-23), 3) := by decide +kernel
theorem dX12_copyTo_102 : decode cX12_copyTo 102 = .ok (.aload_n 0, 1) := by decide +kernel
theorem dX12_copyTo_103 : decode cX12_copyTo 103 = .ok (.iload_n 2, 1) := by decide +kernel
theorem dX12_copyTo_104 : decode cX12_copyTo 104 = .ok (.iload_n 3, 1) := by decide +kernel
theorem dX12_copyTo_105 : decode cX12_copyTo 105 = .ok (.iadd, 1) := by decide +kernel
theorem dX12_copyTo_106 : decode cX12_copyTo 106 = .ok (.putfield 295, 3) := by decide +kernel
theorem dX12_copyTo_109 : decode cX12_copyTo 109 = .ok (.iconst 0, 1) := by decide +kernel
theorem dX12_copyTo_110 : decode cX12_copyTo 110 = .ok (.ireturn, 1) := by decide +kernel
theorem dX12_makesPut_0 : decode cX12_makesPut 0 = .ok (.iload_n 2, 1) := by decide +kernel
theorem dX12_makesPut_1 : decode cX12_makesPut 1 = .ok (.istore_n 3, 1) := by decide +kernel
theorem dX12_makesPut_2 : decode cX12_makesPut 2 = .ok (.aload_n 0, 1) := by decide +kernel
theorem dX12_makesPut_3 : decode cX12_makesPut 3 = .ok (.getfield 44, 3) := by decide +kernel
theorem dX12_makesPut_6 : decode cX12_makesPut 6 = .ok (.iload_n 3, 1) := by decide +kernel
theorem dX12_makesPut_7 : decode cX12_makesPut 7 = .ok (.iaload, 1) := by decide +kernel
theorem dX12_makesPut_8 : decode cX12_makesPut 8 = .ok (.bipush 47, 2) := by decide +kernel
theorem dX12_makesPut_10 : decode cX12_makesPut 10 = .ok (.if_icmp .eq 96, 3) := by decide +kernel
theorem dX12_makesPut_13 : decode cX12_makesPut 13 = .ok (.aload_n 0, 1) := by decide +kernel
theorem dX12_makesPut_14 : decode cX12_makesPut 14 = .ok (.getfield 44, 3) := by decide +kernel
theorem dX12_makesPut_17 : decode cX12_makesPut 17 = .ok (.iload_n 3, 1) := by decide +kernel
theorem dX12_makesPut_18 : decode cX12_makesPut 18 = .ok (.iaload, 1) := by decide +kernel
theorem dX12_makesPut_19 : decode cX12_makesPut 19 = .ok (.bipush 38, 2) := by decide +kernel
theorem dX12_makesPut_21 : decode cX12_makesPut 21 = .ok (.if_icmp .ne 19, 3) := by decide +kernel
theorem dX12_makesPut_24 : decode cX12_makesPut 24 = .ok (.aload_n 0, 1) := by decide +kernel
theorem dX12_makesPut_25 : decode cX12_makesPut 25 = .ok (.iload_n 1, 1) := by decide +kernel
theorem dX12_makesPut_26 : decode cX12_makesPut 26 = .ok (.aload_n 0, 1) := by decide +kernel
theorem dX12_makesPut_27 : decode cX12_makesPut 27 = .ok (.getfield 289, 3) := by decide +kernel
theorem dX12_makesPut_30 : decode cX12_makesPut 30 = .ok (.aload_n 0, 1) := by decide +kernel
theorem dX12_makesPut_31 : decode cX12_makesPut 31 = .ok (.getfield 279, 3) := by decide +kernel
theorem dX12_makesPut_34 : decode cX12_makesPut 34 = .ok (.invokevirtual 348, 3) := by decide +kernel
theorem dX12_makesPut_37 : decode cX12_makesPut 37 = .ok (.goto 63, 3) := by decide +kernel
theorem dX12_makesPut_40 : decode cX12_makesPut 40 = .ok (.aload_n 0, 1) := by decide +kernel
theorem dX12_makesPut_41 : decode cX12_makesPut 41 = .ok (.getfield 44, 3) := by decide +kernel
theorem dX12_makesPut_44 : decode cX12_makesPut 44 = .ok (.iload_n 3, 1) := by decide +kernel
theorem dX12_makesPut_45 : decode cX12_makesPut 45 = .ok (.iaload, 1) := by decide +kernel
theorem dX12_makesPut_46 : decode cX12_makesPut 46 = .ok (.bipush 92, 2) := by decide +kernel
theorem dX12_makesPut_48 : decode cX12_makesPut 48 = .ok (.if_icmp .ne 42, 3) := by decide +kernel
theorem dX12_makesPut_51 : decode cX12_makesPut 51 = .ok (.iinc 3 1, 3) := by decide +kernel
theorem dX12_makesPut_54 : decode cX12_makesPut 54 = .ok (.aload_n 0, 1) := by decide +kernel
theorem dX12_makesPut_55 : decode cX12_makesPut 55 = .ok (.iload_n 1, 1) := by decide +kernel
theorem dX12_makesPut_56 : decode cX12_makesPut 56 = .ok (.aload_n 0, 1) := by decide +kernel
theorem dX12_makesPut_57 : decode cX12_makesPut 57 = .ok (.getfield 53, 3) := by decide +kernel
theorem dX12_makesPut_60 : decode cX12_makesPut 60 = .ok (.aload_n 0, 1) := by decide +kernel
theorem dX12_makesPut_61 : decode cX12_makesPut 61 = .ok (.getfield 44, 3) := by decide +kernel
theorem dX12_makesPut_64 : decode cX12_makesPut 64 = .ok (.iload_n 3, 1) := by decide +kernel
theorem dX12_makesPut_65 : decode cX12_makesPut 65 = .ok (.iaload, 1) := by decide +kernel
theorem dX12_makesPut_66 : decode cX12_makesPut 66 = .ok (.bipush 48, 2) := by decide +kernel
theorem dX12_makesPut_68 : decode cX12_makesPut 68 = .ok (.isub, 1) := by decide +kernel
theorem dX12_makesPut_69 : decode cX12_makesPut 69 = .ok (.iaload, 1) := by decide +kernel
theorem dX12_makesPut_70 : decode cX12_makesPut 70 = .ok (.aload_n 0, 1) := by decide +kernel
theorem dX12_makesPut_71 : decode cX12_makesPut 71 = .ok (.getfield 56, 3) := by decide +kernel
theorem dX12_makesPut_74 : decode cX12_makesPut 74 = .ok (.aload_n 0, 1) := by decide +kernel
theorem dX12_makesPut_75 : decode cX12_makesPut 75 = .ok (.getfield 44, 3) := by decide +kernel
theorem dX12_makesPut_78 : decode cX12_makesPut 78 = .ok (.iload_n 3, 1) := by decide +kernel
theorem dX12_makesPut_79 : decode cX12_makesPut 79 = .ok (.iaload, 1) := by decide +kernel
theorem dX12_makesPut_80 : decode cX12_makesPut 80 = .ok (.bipush 48, 2) := by decide +kernel
theorem dX12_makesPut_82 : decode cX12_makesPut 82 = .ok (.isub, 1) := by decide +kernel
theorem dX12_makesPut_83 : decode cX12_makesPut 83 = .ok (.iaload, 1) := by decide +kernel
theorem dX12_makesPut_84 : decode cX12_makesPut 84 = .ok (.invokevirtual 348, 3) := by decide +kernel
theorem dX12_makesPut_87 : decode cX12_makesPut 87 = .ok (.goto 13, 3) := by decide +kernel
theorem dX12_makesPut_90 : decode cX12_makesPut 90 = .ok (.aload_n 0, 1) := by decide +kernel
theorem dX12_makesPut_91 : decode cX12_makesPut 91 = .ok (.aload_n 0, 1) := by decide +kernel
theorem dX12_makesPut_92 : decode cX12_makesPut 92 = .ok (.getfield 44, 3) := by decide +kernel
theorem dX12_makesPut_95 : decode cX12_makesPut 95 = .ok (.iload_n 3, 1) := by decide +kernel
theorem dX12_makesPut_96 : decode cX12_makesPut 96 = .ok (.iaload, 1) := by decide +kernel
theorem dX12_makesPut_97 : decode cX12_makesPut 97 = .ok (.invokevirtual 120, 3) := by decide +kernel
theorem dX12_makesPut_100 : decode cX12_makesPut 100 = .ok (.iinc 3 1, 3) := by decide +kernel
theorem dX12_makesPut_103 : decode cX12_makesPut 103 = .ok (.goto (-101), 3) := by decide +kernel
theorem dX12_makesPut_106 : decode cX12_makesPut 106 = .ok (.return_, 1) := by decide +kernel
theorem dX12_replaces_0 : decode cX12_replaces 0 = .ok (.aload_n 0, 1) := by decide +kernel
theorem dX12_replaces_1 : decode cX12_replaces 1 = .ok (.iload_n 2, 1) := by decide +kernel
theorem dX12_replaces_2 : decode cX12_replaces 2 = .ok (.iconst 2, 1) := by decide +kernel
theorem dX12_replaces_3 : decode cX12_replaces 3 = .ok (.iadd, 1) := by decide +kernel
theorem dX12_replaces_4 : decode cX12_replaces 4 = .ok (.bipush 47, 2) := by decide +kernel
theorem dX12_replaces_6 : decode cX12_replaces 6 = .ok (.invokevirtual 310, 3) := by decide +kernel
theorem dX12_replaces_9 : decode cX12_replaces 9 = .ok (.aload_n 0, 1) := by decide +kernel
theorem dX12_replaces_10 : decode cX12_replaces 10 = .ok (.getfield 268, 3) := by decide +kernel
theorem dX12_replaces_13 : decode cX12_replaces 13 = .ok (.iconst 1, 1) := by decide +kernel
theorem dX12_replaces_14 : decode cX12_replaces 14 = .ok (.iadd, 1) := by decide +kernel
theorem dX12_replaces_15 : decode cX12_replaces 15 = .ok (.istore_n 3, 1) := by decide +kernel
theorem dX12_replaces_16 : decode cX12_replaces 16 = .ok (.iload_n 3, 1) := by decide +kernel
theorem dX12_replaces_17 : decode cX12_replaces 17 = .ok (.istore 4, 2) := by decide +kernel
theorem dX12_replaces_19 : decode cX12_replaces 19 = .ok (.aload_n 0, 1) := by decide +kernel
theorem dX12_replaces_20 : decode cX12_replaces 20 = .ok (.getfield 44, 3) := by decide +kernel
theorem dX12_replaces_23 : decode cX12_replaces 23 = .ok (.iload 4, 2) := by decide +kernel
theorem dX12_replaces_25 : decode cX12_replaces 25 = .ok (.iaload, 1) := by decide +kernel
theorem dX12_replaces_26 : decode cX12_replaces 26 = .ok (.bipush 47, 2) := by decide +kernel
theorem dX12_replaces_28 : decode cX12_replaces 28 = .ok (.if_icmp .eq 9, 3) := by decide +kernel
theorem dX12_replaces_31 : decode cX12_replaces 31 = .ok (.iinc 4 1, 3) := by decide +kernel
theorem dX12_replaces_34 : decode cX12_replaces 34 = .ok (.goto (-15), 3) := by decide +kernel
theorem dX12_replaces_37 : decode cX12_replaces 37 = .ok (.iload 4, 2) := by decide +kernel
theorem dX12_replaces_39 : decode cX12_replaces 39 = .ok (.iconst 1, 1) := by decide +kernel
theorem dX12_replaces_40 : decode cX12_replaces 40 = .ok (.iadd, 1) := by decide +kernel
theorem dX12_replaces_41 : decode cX12_replaces 41 = .ok (.aload_n 0, 1) := by decide +kernel
theorem dX12_replaces_42 : decode cX12_replaces 42 = .ok (.getfield 146, 3) := by decide +kernel
theorem dX12_replaces_45 : decode cX12_replaces 45 = .ok (.if_icmp .ge 21, 3) := by decide +kernel
theorem dX12_replaces_48 : decode cX12_replaces 48 = .ok (.aload_n 0, 1) := by decide +kernel
theorem dX12_replaces_49 : decode cX12_replaces 49 = .ok (.getfield 44, 3) := by decide +kernel
theorem dX12_replaces_52 : decode cX12_replaces 52 = .ok (.iload 4, 2) := by decide +kernel
theorem dX12_replaces_54 : decode cX12_replaces 54 = .ok (.iconst 1, 1) := by decide +kernel
theorem dX12_replaces_55 : decode cX12_replaces 55 = .ok (.iadd, 1) := by decide +kernel
theorem dX12_replaces_56 : decode cX12_replaces 56 = .ok (.iaload, 1) := by decide +kernel
theorem dX12_replaces_57 : decode cX12_replaces 57 = .ok (.bipush 103, 2) := by decide +kernel
theorem dX12_replaces_59 : decode cX12_replaces 59 = .ok (.if_icmp .ne 7, 3) := by decide +kernel
theorem dX12_replaces_62 : decode cX12_replaces 62 = .ok (.iconst 1, 1) := by decide +kernel
theorem dX12_replaces_63 : decode cX12_replaces 63 = .ok (.goto 4, 3) := by decide +kernel
theorem dX12_replaces_66 : decode cX12_replaces 66 = .ok (.iconst 0, 1) := by decide +kernel
theorem dX12_replaces_67 : decode cX12_replaces 67 = .ok (.istore 5, 2) := by decide +kernel
theorem dX12_replaces_69 : decode cX12_replaces 69 = .ok (.iload 4, 2) := by decide +kernel
theorem dX12_replaces_71 : decode cX12_replaces 71 = .ok (.iconst 1, 1) := by decide +kernel
theorem dX12_replaces_72 : decode cX12_replaces 72 = .ok (.iadd, 1) := by decide +kernel
theorem dX12_replaces_73 : decode cX12_replaces 73 = .ok (.aload_n 0, 1) := by decide +kernel
theorem dX12_replaces_74 : decode cX12_replaces 74 = .ok (.getfield 146, 3) := by decide +kernel
theorem dX12_replaces_77 : decode cX12_replaces 77 = .ok (.if_icmp .ge 33, 3) := by decide +kernel
theorem dX12_replaces_80 : decode cX12_replaces 80 = .ok (.aload_n 0, 1) := by decide +kernel
theorem dX12_replaces_81 : decode cX12_replaces 81 = .ok (.getfield 44, 3) := by decide +kernel
theorem dX12_replaces_84 : decode cX12_replaces 84 = .ok (.iload 4, 2) := by decide +kernel
theorem dX12_replaces_86 : decode cX12_replaces 86 = .ok (.iconst 1, 1) := by decide +kernel
theorem dX12_replaces_87 : decode cX12_replaces 87 = .ok (.iadd, 1) := by decide +kernel
theorem dX12_replaces_88 : decode cX12_replaces 88 = .ok (.iaload, 1) := by decide +kernel
theorem dX12_replaces_89 : decode cX12_replaces 89 = .ok (.invokestatic 152, 3) := by decide +kernel
theorem dX12_replaces_92 : decode cX12_replaces 92 = .ok (.ifCond .eq 18, 3) := by decide +kernel
theorem dX12_replaces_95 : decode cX12_replaces 95 = .ok (.aload_n 0, 1) := by decide +kernel
theorem dX12_replaces_96 : decode cX12_replaces 96 = .ok (.getfield 44, 3) := by decide +kernel
theorem dX12_replaces_99 : decode cX12_replaces 99 = .ok (.iload 4, 2) := by decide +kernel
theorem dX12_replaces_101 : decode cX12_replaces 101 = .ok (.iconst 1, 1) := by decide +kernel
theorem dX12_replaces_102 : decode cX12_replaces 102 = .ok (.iadd, 1) := by decide +kernel
theorem dX12_replaces_103 : decode cX12_replaces 103 = .ok (.iaload, 1) := by decide +kernel
theorem dX12_replaces_104 : decode cX12_replaces 104 = .ok (.bipush 48, 2) := by decide +kernel
theorem dX12_replaces_106 : decode cX12_replaces 106 = .ok (.isub, 1) := by decide +kernel
theorem dX12_replaces_107 : decode cX12_replaces 107 = .ok (.goto 4, 3) := by decide +kernel
theorem dX12_replaces_110 : decode cX12_replaces 110 = .ok (.iconst 1, 1) := by decide +kernel
theorem dX12_replaces_111 : decode cX12_replaces 111 = .ok (.istore 6, 2) := by decide +kernel
theorem dX12_replaces_113 : decode cX12_replaces 113 = .ok (.iconst 0, 1) := by decide +kernel
theorem dX12_replaces_114 : decode cX12_replaces 114 = .ok (.istore 7, 2) := by decide +kernel
theorem dX12_replaces_116 : decode cX12_replaces 116 = .ok (.iconst 0, 1) := by decide +kernel
theorem dX12_replaces_117 : decode cX12_replaces 117 = .ok (.istore 8, 2) := by decide +kernel
theorem dX12_replaces_119 : decode cX12_replaces 119 = .ok (.iconst 0, 1) := by decide +kernel
theorem dX12_replaces_120 : decode cX12_replaces 120 = .ok (.istore 9, 2) := by decide +kernel
theorem dX12_replaces_122 : decode cX12_replaces 122 = .ok (.aload_n 0, 1) := by decide +kernel
theorem dX12_replaces_123 : decode cX12_replaces 123 = .ok (.iload_n 1, 1) := by decide +kernel
theorem dX12_replaces_124 : decode cX12_replaces 124 = .ok (.iconst 0, 1) := by decide +kernel
theorem dX12_replaces_125 : decode cX12_replaces 125 = .ok (.invokevirtual 292, 3) := by decide +kernel
theorem dX12_replaces_128 : decode cX12_replaces 128 = .ok (.istore 10, 2) := by decide +kernel
theorem dX12_replaces_130 : decode cX12_replaces 130 = .ok (.aload_n 0, 1) := by decide +kernel
theorem dX12_replaces_131 : decode cX12_replaces 131 = .ok (.iconst 0, 1) := by decide +kernel
theorem dX12_replaces_132 : decode cX12_replaces 132 = .ok (.putfield 117, 3) := by decide +kernel
theorem dX12_replaces_135 : decode cX12_replaces 135 = .ok (.iload 10, 2) := by decide +kernel
theorem dX12_replaces_137 : decode cX12_replaces 137 = .ok (.ifCond .eq 66, 3) := by decide +kernel
theorem dX12_replaces_140 : decode cX12_replaces 140 = .ok (.iload 5, 2) := by decide +kernel
theorem dX12_replaces_142 : decode cX12_replaces 142 = .ok (.ifCond .ne 10, 3) := by decide +kernel
theorem dX12_replaces_145 : decode cX12_replaces 145 = .ok (.iload 7, 2) := by decide +kernel
theorem dX12_replaces_147 : decode cX12_replaces 147 = .ok (.iload 6, 2) := by decide +kernel
theorem dX12_replaces_149 : decode cX12_replaces 149 = .ok (.if_icmp .ge 54, 3) := by decide +kernel
theorem dX12_replaces_152 : decode cX12_replaces 152 = .ok (.iinc 7 1, 3) := by decide +kernel
theorem dX12_replaces_155 : decode cX12_replaces 155 = .ok (.iload 5, 2) := by decide +kernel
theorem dX12_replaces_157 : decode cX12_replaces 157 = .ok (.ifCond .ne 10, 3) := by decide +kernel
theorem dX12_replaces_160 : decode cX12_replaces 160 = .ok (.iload 7, 2) := by decide +kernel
theorem dX12_replaces_162 : decode cX12_replaces 162 = .ok (.iload 6, 2) := by decide +kernel
theorem dX12_replaces_164 : decode cX12_replaces 164 = .ok (.if_icmp .ne 29, 3) := by decide +kernel
theorem dX12_replaces_167 : decode cX12_replaces 167 = .ok (.aload_n 0, 1) := by decide +kernel
theorem dX12_replaces_168 : decode cX12_replaces 168 = .ok (.iload_n 1, 1) := by decide +kernel
theorem dX12_replaces_169 : decode cX12_replaces 169 = .ok (.iload 8, 2) := by decide +kernel
theorem dX12_replaces_171 : decode cX12_replaces 171 = .ok (.aload_n 0, 1) := by decide +kernel
theorem dX12_replaces_172 : decode cX12_replaces 172 = .ok (.getfield 289, 3) := by decide +kernel
theorem dX12_replaces_175 : decode cX12_replaces 175 = .ok (.invokevirtual 348, 3) := by decide +kernel
theorem dX12_replaces_178 : decode cX12_replaces 178 = .ok (.aload_n 0, 1) := by decide +kernel
theorem dX12_replaces_179 : decode cX12_replaces 179 = .ok (.iload_n 1, 1) := by decide +kernel
theorem dX12_replaces_180 : decode cX12_replaces 180 = .ok (.iload_n 3, 1) := by decide +kernel
theorem dX12_replaces_181 : decode cX12_replaces 181 = .ok (.invokevirtual 379, 3) := by decide +kernel
theorem dX12_replaces_184 : decode cX12_replaces 184 = .ok (.aload_n 0, 1) := by decide +kernel
theorem dX12_replaces_185 : decode cX12_replaces 185 = .ok (.getfield 279, 3) := by decide +kernel
theorem dX12_replaces_188 : decode cX12_replaces 188 = .ok (.istore 8, 2) := by decide +kernel
theorem dX12_replaces_190 : decode cX12_replaces 190 = .ok (.iconst 1, 1) := by decide +kernel
theorem dX12_replaces_191 : decode cX12_replaces 191 = .ok (.istore 9, 2) := by decide +kernel
theorem dX12_replaces_193 : decode cX12_replaces 193 = .ok (.aload_n 0, 1) := by decide +kernel
theorem dX12_replaces_194 : decode cX12_replaces 194 = .ok (.iload_n 1, 1) := by decide +kernel
theorem dX12_replaces_195 : decode cX12_replaces 195 = .ok (.invokevirtual 382, 3) := by decide +kernel
theorem dX12_replaces_198 : decode cX12_replaces 198 = .ok (.istore 10, 2) := by decide +kernel
theorem dX12_replaces_200 : decode cX12_replaces 200 = .ok (.goto (-65), 3) := by decide +kernel
theorem dX12_replaces_203 : decode cX12_replaces 203 = .ok (.iload 9, 2) := by decide +kernel
theorem dX12_replaces_205 : decode cX12_replaces 205 = .ok (.ifCond .ne 5, 3) := by decide +kernel
theorem dX12_replaces_208 : decode cX12_replaces 208 = .ok (.iconst 1, 1) := by decide +kernel
theorem dX12_replaces_209 : decode cX12_replaces 209 = .ok (.ireturn, 1) := by decide +kernel
theorem dX12_replaces_210 : decode cX12_replaces 210 = .ok (.aload_n 0, 1) := by decide +kernel
theorem dX12_replaces_211 : decode cX12_replaces 211 = .ok (.iload_n 1, 1) := by decide +kernel
theorem dX12_replaces_212 : decode cX12_replaces 212 = .ok (.iload 8, 2) := by decide +kernel
theorem dX12_replaces_214 : decode cX12_replaces 214 = .ok (.aload_n 0, 1) := by decide +kernel
theorem dX12_replaces_215 : decode cX12_replaces 215 = .ok (.iload_n 1, 1) := by decide +kernel
theorem dX12_replaces_216 : decode cX12_replaces 216 = .ok (.invokevirtual 109, 3) := by decide +kernel
theorem dX12_replaces_219 : decode cX12_replaces 219 = .ok (.invokevirtual 348, 3) := by decide +kernel
theorem dX12_replaces_222 : decode cX12_replaces 222 = .ok (.aload_n 0, 1) := by decide +kernel
theorem dX12_replaces_223 : decode cX12_replaces 223 = .ok (.iconst 1, 1) := by decide +kernel
theorem dX12_replaces_224 : decode cX12_replaces 224 = .ok (.putfield 385, 3) := by decide +kernel
theorem dX12_replaces_227 : decode cX12_replaces 227 = .ok (.aload_n 0, 1) := by decide +kernel
theorem dX12_replaces_228 : decode cX12_replaces 228 = .ok (.iload_n 1, 1) := by decide +kernel
theorem dX12_replaces_229 : decode cX12_replaces 229 = .ok (.invokevirtual 329, 3) := by decide +kernel
theorem dX12_replaces_232 : decode cX12_replaces 232 = .ok (.ireturn, 1) := by decide +kernel
theorem dX12_turns_0 : decode cX12_turns 0 = .ok (.iload_n 2, 1) := by decide +kernel
theorem dX12_turns_1 : decode cX12_turns 1 = .ok (.iconst 2, 1) := by decide +kernel
theorem dX12_turns_2 : decode cX12_turns 2 = .ok (.iadd, 1) := by decide +kernel
theorem dX12_turns_3 : decode cX12_turns 3 = .ok (.istore_n 3, 1) := by decide +kernel
theorem dX12_turns_4 : decode cX12_turns 4 = .ok (.iload_n 3, 1) := by decide +kernel
theorem dX12_turns_5 : decode cX12_turns 5 = .ok (.istore 4, 2) := by decide +kernel
theorem dX12_turns_7 : decode cX12_turns 7 = .ok (.aload_n 0, 1) := by decide +kernel
theorem dX12_turns_8 : decode cX12_turns 8 = .ok (.getfield 44, 3) := by decide +kernel
theorem dX12_turns_11 : decode cX12_turns 11 = .ok (.iload 4, 2) := by decide +kernel
theorem dX12_turns_13 : decode cX12_turns 13 = .ok (.iaload, 1) := by decide +kernel
theorem dX12_turns_14 : decode cX12_turns 14 = .ok (.bipush 47, 2) := by decide +kernel
theorem dX12_turns_16 : decode cX12_turns 16 = .ok (.if_icmp .eq 9, 3) := by decide +kernel
theorem dX12_turns_19 : decode cX12_turns 19 = .ok (.iinc 4 1, 3) := by decide +kernel
theorem dX12_turns_22 : decode cX12_turns 22 = .ok (.goto (-15), 3) := by decide +kernel
theorem dX12_turns_25 : decode cX12_turns 25 = .ok (.iconst 0, 1) := by decide +kernel
theorem dX12_turns_26 : decode cX12_turns 26 = .ok (.istore 5, 2) := by decide +kernel
theorem dX12_turns_28 : decode cX12_turns 28 = .ok (.iload 5, 2) := by decide +kernel
theorem dX12_turns_30 : decode cX12_turns 30 = .ok (.aload_n 0, 1) := by decide +kernel
theorem dX12_turns_31 : decode cX12_turns 31 = .ok (.iload_n 1, 1) := by decide +kernel
theorem dX12_turns_32 : decode cX12_turns 32 = .ok (.invokevirtual 109, 3) := by decide +kernel
theorem dX12_turns_35 : decode cX12_turns 35 = .ok (.if_icmp .ge 87, 3) := by decide +kernel
theorem dX12_turns_38 : decode cX12_turns 38 = .ok (.iload_n 3, 1) := by decide +kernel
theorem dX12_turns_39 : decode cX12_turns 39 = .ok (.istore 6, 2) := by decide +kernel
theorem dX12_turns_41 : decode cX12_turns 41 = .ok (.iload 6, 2) := by decide +kernel
theorem dX12_turns_43 : decode cX12_turns 43 = .ok (.iload 4, 2) := by decide +kernel
theorem dX12_turns_45 : decode cX12_turns 45 = .ok (.if_icmp .ge 26, 3) := by decide +kernel
theorem dX12_turns_48 : decode cX12_turns 48 = .ok (.aload_n 0, 1) := by decide +kernel
theorem dX12_turns_49 : decode cX12_turns 49 = .ok (.getfield 44, 3) := by decide +kernel
theorem dX12_turns_52 : decode cX12_turns 52 = .ok (.iload 6, 2) := by decide +kernel
theorem dX12_turns_54 : decode cX12_turns 54 = .ok (.iaload, 1) := by decide +kernel
theorem dX12_turns_55 : decode cX12_turns 55 = .ok (.aload_n 0, 1) := by decide +kernel
theorem dX12_turns_56 : decode cX12_turns 56 = .ok (.iload_n 1, 1) := by decide +kernel
theorem dX12_turns_57 : decode cX12_turns 57 = .ok (.iload 5, 2) := by decide +kernel
theorem dX12_turns_59 : decode cX12_turns 59 = .ok (.invokevirtual 113, 3) := by decide +kernel
theorem dX12_turns_62 : decode cX12_turns 62 = .ok (.if_icmp .eq 9, 3) := by decide +kernel
theorem dX12_turns_65 : decode cX12_turns 65 = .ok (.iinc 6 1, 3) := by decide +kernel
theorem dX12_turns_68 : decode cX12_turns 68 = .ok (.goto (-27), 3) := by decide +kernel
theorem dX12_turns_71 : decode cX12_turns 71 = .ok (.aload_n 0, 1) := by decide +kernel
theorem dX12_turns_72 : decode cX12_turns 72 = .ok (.getfield 23, 3) := by decide +kernel
theorem dX12_turns_75 : decode cX12_turns 75 = .ok (.bipush 31, 2) := by decide +kernel
theorem dX12_turns_77 : decode cX12_turns 77 = .ok (.iload_n 1, 1) := by decide +kernel
theorem dX12_turns_78 : decode cX12_turns 78 = .ok (.imul, 1) := by decide +kernel
theorem dX12_turns_79 : decode cX12_turns 79 = .ok (.iconst 1, 1) := by decide +kernel
theorem dX12_turns_80 : decode cX12_turns 80 = .ok (.iadd, 1) := by decide +kernel
theorem dX12_turns_81 : decode cX12_turns 81 = .ok (.iload 5, 2) := by decide +kernel
theorem dX12_turns_83 : decode cX12_turns 83 = .ok (.iadd, 1) := by decide +kernel
theorem dX12_turns_84 : decode cX12_turns 84 = .ok (.iload 6, 2) := by decide +kernel
theorem dX12_turns_86 : decode cX12_turns 86 = .ok (.iload 4, 2) := by decide +kernel
theorem dX12_turns_88 : decode cX12_turns 88 = .ok (.if_icmp .ge 20, 3) := by decide +kernel
theorem dX12_turns_91 : decode cX12_turns 91 = .ok (.aload_n 0, 1) := by decide +kernel
theorem dX12_turns_92 : decode cX12_turns 92 = .ok (.getfield 44, 3) := by decide +kernel
theorem dX12_turns_95 : decode cX12_turns 95 = .ok (.iload 4, 2) := by decide +kernel
theorem dX12_turns_97 : decode cX12_turns 97 = .ok (.iconst 1, 1) := by decide +kernel
theorem dX12_turns_98 : decode cX12_turns 98 = .ok (.iadd, 1) := by decide +kernel
theorem dX12_turns_99 : decode cX12_turns 99 = .ok (.iload 6, 2) := by decide +kernel
theorem dX12_turns_101 : decode cX12_turns 101 = .ok (.iadd, 1) := by decide +kernel
theorem dX12_turns_102 : decode cX12_turns 102 = .ok (.iload_n 3, 1) := by decide +kernel
theorem dX12_turns_103 : decode cX12_turns 103 = .ok (.isub, 1) := by decide +kernel
theorem dX12_turns_104 : decode cX12_turns 104 = .ok (.iaload, 1) := by decide +kernel
theorem dX12_turns_105 : decode cX12_turns 105 = .ok (.goto 10, 3) := by decide +kernel
theorem dX12_turns_108 : decode cX12_turns 108 = .ok (.aload_n 0, 1) := by decide +kernel
theorem dX12_turns_109 : decode cX12_turns 109 = .ok (.iload_n 1, 1) := by decide +kernel
theorem dX12_turns_110 : decode cX12_turns 110 = .ok (.iload 5, 2) := by decide +kernel
theorem dX12_turns_112 : decode cX12_turns 112 = .ok (.invokevirtual 113, 3) := by decide +kernel
theorem dX12_turns_115 : decode cX12_turns 115 = .ok (.iastore, 1) := by decide +kernel
theorem dX12_turns_116 : decode cX12_turns 116 = .ok (.iinc 5 1, 3) := by decide +kernel
theorem dX12_turns_119 : decode cX12_turns 119 = .ok (.goto (-91), 3) := by decide +kernel
theorem dX12_turns_122 : decode cX12_turns 122 = .ok (.return_, 1) := by decide +kernel
theorem dX12_replaceAll_0 : decode cX12_replaceAll 0 = .ok (.aload_n 0, 1) := by decide +kernel
theorem dX12_replaceAll_1 : decode cX12_replaceAll 1 = .ok (.getfield 317, 3) := by decide +kernel
theorem dX12_replaceAll_4 : decode cX12_replaceAll 4 = .ok (.istore_n 2, 1) := by decide +kernel
theorem dX12_replaceAll_5 : decode cX12_replaceAll 5 = .ok (.iload_n 2, 1) := by decide +kernel
theorem dX12_replaceAll_6 : decode cX12_replaceAll 6 = .ok (.aload_n 0, 1) := by decide +kernel
theorem dX12_replaceAll_7 : decode cX12_replaceAll 7 = .ok (.getfield 320, 3) := by decide +kernel
theorem dX12_replaceAll_10 : decode cX12_replaceAll 10 = .ok (.if_icmp .gt 23, 3) := by decide +kernel
theorem dX12_replaceAll_13 : decode cX12_replaceAll 13 = .ok (.aload_n 0, 1) := by decide +kernel
theorem dX12_replaceAll_14 : decode cX12_replaceAll 14 = .ok (.iload_n 2, 1) := by decide +kernel
theorem dX12_replaceAll_15 : decode cX12_replaceAll 15 = .ok (.invokestatic 298, 3) := by decide +kernel
theorem dX12_replaceAll_18 : decode cX12_replaceAll 18 = .ok (.iload_n 1, 1) := by decide +kernel
theorem dX12_replaceAll_19 : decode cX12_replaceAll 19 = .ok (.invokevirtual 388, 3) := by decide +kernel
theorem dX12_replaceAll_22 : decode cX12_replaceAll 22 = .ok (.ifCond .ne 5, 3) := by decide +kernel
theorem dX12_replaceAll_25 : decode cX12_replaceAll 25 = .ok (.iconst 4, 1) := by decide +kernel
theorem dX12_replaceAll_26 : decode cX12_replaceAll 26 = .ok (.ireturn, 1) := by decide +kernel
theorem dX12_replaceAll_27 : decode cX12_replaceAll 27 = .ok (.iinc 2 1, 3) := by decide +kernel
theorem dX12_replaceAll_30 : decode cX12_replaceAll 30 = .ok (.goto (-25), 3) := by decide +kernel
theorem dX12_replaceAll_33 : decode cX12_replaceAll 33 = .ok (.aload_n 0, 1) := by decide +kernel
theorem dX12_replaceAll_34 : decode cX12_replaceAll 34 = .ok (.aload_n 0, 1) := by decide +kernel
theorem dX12_replaceAll_35 : decode cX12_replaceAll 35 = .ok (.getfield 320, 3) := by decide +kernel
theorem dX12_replaceAll_38 : decode cX12_replaceAll 38 = .ok (.putfield 295, 3) := by decide +kernel
theorem dX12_replaceAll_41 : decode cX12_replaceAll 41 = .ok (.iconst 0, 1) := by decide +kernel
theorem dX12_replaceAll_42 : decode cX12_replaceAll 42 = .ok (.ireturn, 1) := by decide +kernel
theorem dX12_turnAll_0 : decode cX12_turnAll 0 = .ok (.aload_n 0, 1) := by decide +kernel
theorem dX12_turnAll_1 : decode cX12_turnAll 1 = .ok (.getfield 317, 3) := by decide +kernel
theorem dX12_turnAll_4 : decode cX12_turnAll 4 = .ok (.istore_n 2, 1) := by decide +kernel
theorem dX12_turnAll_5 : decode cX12_turnAll 5 = .ok (.iload_n 2, 1) := by decide +kernel
theorem dX12_turnAll_6 : decode cX12_turnAll 6 = .ok (.aload_n 0, 1) := by decide +kernel
theorem dX12_turnAll_7 : decode cX12_turnAll 7 = .ok (.getfield 320, 3) := by decide +kernel
theorem dX12_turnAll_10 : decode cX12_turnAll 10 = .ok (.if_icmp .gt 18, 3) := by decide +kernel
theorem dX12_turnAll_13 : decode cX12_turnAll 13 = .ok (.aload_n 0, 1) := by decide +kernel
theorem dX12_turnAll_14 : decode cX12_turnAll 14 = .ok (.iload_n 2, 1) := by decide +kernel
theorem dX12_turnAll_15 : decode cX12_turnAll 15 = .ok (.invokestatic 298, 3) := by decide +kernel
theorem dX12_turnAll_18 : decode cX12_turnAll 18 = .ok (.iload_n 1, 1) := by decide +kernel
theorem dX12_turnAll_19 : decode cX12_turnAll 19 = .ok (.invokevirtual 391, 3) := by decide +kernel
theorem dX12_turnAll_22 : decode cX12_turnAll 22 = .ok (.iinc 2 1, 3) := by decide +kernel
theorem dX12_turnAll_25 : decode cX12_turnAll 25 = .ok (.goto (-20), 3) := by decide +kernel
theorem dX12_turnAll_28 : decode cX12_turnAll 28 = .ok (.aload_n 0, 1) := by decide +kernel
theorem dX12_turnAll_29 : decode cX12_turnAll 29 = .ok (.aload_n 0, 1) := by decide +kernel
theorem dX12_turnAll_30 : decode cX12_turnAll 30 = .ok (.getfield 320, 3) := by decide +kernel
theorem dX12_turnAll_33 : decode cX12_turnAll 33 = .ok (.putfield 295, 3) := by decide +kernel
theorem dX12_turnAll_36 : decode cX12_turnAll 36 = .ok (.iconst 0, 1) := by decide +kernel
theorem dX12_turnAll_37 : decode cX12_turnAll 37 = .ok (.ireturn, 1) := by decide +kernel
theorem dX12_fileRow_0 : decode cX12_fileRow 0 = .ok (.bipush 123, 2) := by decide +kernel
theorem dX12_fileRow_2 : decode cX12_fileRow 2 = .ok (.bipush 41, 2) := by decide +kernel
theorem dX12_fileRow_4 : decode cX12_fileRow 4 = .ok (.iload_n 0, 1) := by decide +kernel
theorem dX12_fileRow_5 : decode cX12_fileRow 5 = .ok (.imul, 1) := by decide +kernel
theorem dX12_fileRow_6 : decode cX12_fileRow 6 = .ok (.iadd, 1) := by decide +kernel
theorem dX12_fileRow_7 : decode cX12_fileRow 7 = .ok (.iload_n 1, 1) := by decide +kernel
theorem dX12_fileRow_8 : decode cX12_fileRow 8 = .ok (.iadd, 1) := by decide +kernel
theorem dX12_fileRow_9 : decode cX12_fileRow 9 = .ok (.ireturn, 1) := by decide +kernel
theorem dX12_readFile_0 : decode cX12_readFile 0 = .ok (.aload_n 0, 1) := by decide +kernel
theorem dX12_readFile_1 : decode cX12_readFile 1 = .ok (.getfield 38, 3) := by decide +kernel
theorem dX12_readFile_4 : decode cX12_readFile 4 = .ok (.iload_n 1, 1) := by decide +kernel
theorem dX12_readFile_5 : decode cX12_readFile 5 = .ok (.iaload, 1) := by decide +kernel
theorem dX12_readFile_6 : decode cX12_readFile 6 = .ok (.ifCond .ne 5, 3) := by decide +kernel
theorem dX12_readFile_9 : decode cX12_readFile 9 = .ok (.iconst 0, 1) := by decide +kernel
theorem dX12_readFile_10 : decode cX12_readFile 10 = .ok (.ireturn, 1) := by decide +kernel
theorem dX12_readFile_11 : decode cX12_readFile 11 = .ok (.aload_n 0, 1) := by decide +kernel
theorem dX12_readFile_12 : decode cX12_readFile 12 = .ok (.getfield 124, 3) := by decide +kernel
theorem dX12_readFile_15 : decode cX12_readFile 15 = .ok (.aload_n 0, 1) := by decide +kernel
theorem dX12_readFile_16 : decode cX12_readFile 16 = .ok (.getfield 38, 3) := by decide +kernel
theorem dX12_readFile_19 : decode cX12_readFile 19 = .ok (.iload_n 1, 1) := by decide +kernel
theorem dX12_readFile_20 : decode cX12_readFile 20 = .ok (.iaload, 1) := by decide +kernel
theorem dX12_readFile_21 : decode cX12_readFile 21 = .ok (.iadd, 1) := by decide +kernel
theorem dX12_readFile_22 : decode cX12_readFile 22 = .ok (.bipush 40, 2) := by decide +kernel
theorem dX12_readFile_24 : decode cX12_readFile 24 = .ok (.if_icmp .le 5, 3) := by decide +kernel
theorem dX12_readFile_27 : decode cX12_readFile 27 = .ok (.iconst 4, 1) := by decide +kernel
theorem dX12_readFile_28 : decode cX12_readFile 28 = .ok (.ireturn, 1) := by decide +kernel
theorem dX12_readFile_29 : decode cX12_readFile 29 = .ok (.iconst 0, 1) := by decide +kernel
theorem dX12_readFile_30 : decode cX12_readFile 30 = .ok (.istore_n 2, 1) := by decide +kernel
theorem dX12_readFile_31 : decode cX12_readFile 31 = .ok (.iload_n 2, 1) := by decide +kernel
theorem dX12_readFile_32 : decode cX12_readFile 32 = .ok (.aload_n 0, 1) := by decide +kernel
theorem dX12_readFile_33 : decode cX12_readFile 33 = .ok (.getfield 38, 3) := by decide +kernel
theorem dX12_readFile_36 : decode cX12_readFile 36 = .ok (.iload_n 1, 1) := by decide +kernel
theorem dX12_readFile_37 : decode cX12_readFile 37 = .ok (.iaload, 1) := by decide +kernel
theorem dX12_readFile_38 : decode cX12_readFile 38 = .ok (.if_icmp .ge 24, 3) := by decide +kernel
theorem dX12_readFile_41 : decode cX12_readFile 41 = .ok (.aload_n 0, 1) := by decide +kernel
theorem dX12_readFile_42 : decode cX12_readFile 42 = .ok (.iload_n 1, 1) := by decide +kernel
theorem dX12_readFile_43 : decode cX12_readFile 43 = .ok (.iload_n 2, 1) := by decide +kernel
theorem dX12_readFile_44 : decode cX12_readFile 44 = .ok (.invokestatic 394, 3) := by decide +kernel
theorem dX12_readFile_47 : decode cX12_readFile 47 = .ok (.aload_n 0, 1) := by decide +kernel
theorem dX12_readFile_48 : decode cX12_readFile 48 = .ok (.getfield 320, 3) := by decide +kernel
theorem dX12_readFile_51 : decode cX12_readFile 51 = .ok (.iload_n 2, 1) := by decide +kernel
theorem dX12_readFile_52 : decode cX12_readFile 52 = .ok (.iadd, 1) := by decide +kernel
theorem dX12_readFile_53 : decode cX12_readFile 53 = .ok (.invokevirtual 332, 3) := by decide +kernel
theorem dX12_readFile_56 : decode cX12_readFile 56 = .ok (.iinc 2 1, 3) := by decide +kernel
theorem dX12_readFile_59 : decode cX12_readFile 59 = .ok (.goto (-28), 3) := by decide +kernel
theorem dX12_readFile_62 : decode cX12_readFile 62 = .ok (.aload_n 0, 1) := by decide +kernel
theorem dX12_readFile_63 : decode cX12_readFile 63 = .ok (.aload_n 0, 1) := by decide +kernel
theorem dX12_readFile_64 : decode cX12_readFile 64 = .ok (.getfield 320, 3) := by decide +kernel
theorem dX12_readFile_67 : decode cX12_readFile 67 = .ok (.aload_n 0, 1) := by decide +kernel
theorem dX12_readFile_68 : decode cX12_readFile 68 = .ok (.getfield 38, 3) := by decide +kernel
theorem dX12_readFile_71 : decode cX12_readFile 71 = .ok (.iload_n 1, 1) := by decide +kernel
theorem dX12_readFile_72 : decode cX12_readFile 72 = .ok (.iaload, 1) := by decide +kernel
theorem dX12_readFile_73 : decode cX12_readFile 73 = .ok (.iadd, 1) := by decide +kernel
theorem dX12_readFile_74 : decode cX12_readFile 74 = .ok (.putfield 295, 3) := by decide +kernel
theorem dX12_readFile_77 : decode cX12_readFile 77 = .ok (.iconst 0, 1) := by decide +kernel
theorem dX12_readFile_78 : decode cX12_readFile 78 = .ok (.ireturn, 1) := by decide +kernel
theorem dX12_writeFile_0 : decode cX12_writeFile 0 = .ok (.aload_n 0, 1) := by decide +kernel
theorem dX12_writeFile_1 : decode cX12_writeFile 1 = .ok (.getfield 317, 3) := by decide +kernel
theorem dX12_writeFile_4 : decode cX12_writeFile 4 = .ok (.istore_n 2, 1) := by decide +kernel
theorem dX12_writeFile_5 : decode cX12_writeFile 5 = .ok (.iload_n 2, 1) := by decide +kernel
theorem dX12_writeFile_6 : decode cX12_writeFile 6 = .ok (.aload_n 0, 1) := by decide +kernel
theorem dX12_writeFile_7 : decode cX12_writeFile 7 = .ok (.getfield 320, 3) := by decide +kernel
theorem dX12_writeFile_10 : decode cX12_writeFile 10 = .ok (.if_icmp .gt 27, 3) := by decide +kernel
theorem dX12_writeFile_13 : decode cX12_writeFile 13 = .ok (.aload_n 0, 1) := by decide +kernel
theorem dX12_writeFile_14 : decode cX12_writeFile 14 = .ok (.iload_n 2, 1) := by decide +kernel
theorem dX12_writeFile_15 : decode cX12_writeFile 15 = .ok (.invokestatic 298, 3) := by decide +kernel
theorem dX12_writeFile_18 : decode cX12_writeFile 18 = .ok (.iload_n 1, 1) := by decide +kernel
theorem dX12_writeFile_19 : decode cX12_writeFile 19 = .ok (.iload_n 2, 1) := by decide +kernel
theorem dX12_writeFile_20 : decode cX12_writeFile 20 = .ok (.aload_n 0, 1) := by decide +kernel
theorem dX12_writeFile_21 : decode cX12_writeFile 21 = .ok (.getfield 317, 3) := by decide +kernel
theorem dX12_writeFile_24 : decode cX12_writeFile 24 = .ok (.isub, 1) := by decide +kernel
theorem dX12_writeFile_25 : decode cX12_writeFile 25 = .ok (.invokestatic 394, 3) := by decide +kernel
theorem dX12_writeFile_28 : decode cX12_writeFile 28 = .ok (.invokevirtual 127, 3) := by decide +kernel
theorem dX12_writeFile_31 : decode cX12_writeFile 31 = .ok (.iinc 2 1, 3) := by decide +kernel
theorem dX12_writeFile_34 : decode cX12_writeFile 34 = .ok (.goto (-29), 3) := by decide +kernel
theorem dX12_writeFile_37 : decode cX12_writeFile 37 = .ok (.aload_n 0, 1) := by decide +kernel
theorem dX12_writeFile_38 : decode cX12_writeFile 38 = .ok (.getfield 38, 3) := by decide +kernel
theorem dX12_writeFile_41 : decode cX12_writeFile 41 = .ok (.iload_n 1, 1) := by decide +kernel
theorem dX12_writeFile_42 : decode cX12_writeFile 42 = .ok (.aload_n 0, 1) := by decide +kernel
theorem dX12_writeFile_43 : decode cX12_writeFile 43 = .ok (.getfield 320, 3) := by decide +kernel
theorem dX12_writeFile_46 : decode cX12_writeFile 46 = .ok (.aload_n 0, 1) := by decide +kernel
theorem dX12_writeFile_47 : decode cX12_writeFile 47 = .ok (.getfield 317, 3) := by decide +kernel
theorem dX12_writeFile_50 : decode cX12_writeFile 50 = .ok (.isub, 1) := by decide +kernel
theorem dX12_writeFile_51 : decode cX12_writeFile 51 = .ok (.iconst 1, 1) := by decide +kernel
theorem dX12_writeFile_52 : decode cX12_writeFile 52 = .ok (.iadd, 1) := by decide +kernel
theorem dX12_writeFile_53 : decode cX12_writeFile 53 = .ok (.iastore, 1) := by decide +kernel
theorem dX12_writeFile_54 : decode cX12_writeFile 54 = .ok (.iconst 0, 1) := by decide +kernel
theorem dX12_writeFile_55 : decode cX12_writeFile 55 = .ok (.ireturn, 1) := by decide +kernel
theorem dX12_act_0 : decode cX12_act 0 = .ok (.aload_n 0, 1) := by decide +kernel
theorem dX12_act_1 : decode cX12_act 1 = .ok (.getfield 44, 3) := by decide +kernel
theorem dX12_act_4 : decode cX12_act 4 = .ok (.iload_n 1, 1) := by decide +kernel
theorem dX12_act_5 : decode cX12_act 5 = .ok (.iaload, 1) := by decide +kernel
theorem dX12_act_6 : decode cX12_act 6 = .ok (.istore_n 2, 1) := by decide +kernel
theorem dX12_act_7 : decode cX12_act 7 = .ok (.iload_n 2, 1) := by decide +kernel
theorem dX12_act_8 : decode cX12_act 8 = .ok (.bipush 97, 2) := by decide +kernel
theorem dX12_act_10 : decode cX12_act 10 = .ok (.if_icmp .ne 15, 3) := by decide +kernel
theorem dX12_act_13 : decode cX12_act 13 = .ok (.aload_n 0, 1) := by decide +kernel
theorem dX12_act_14 : decode cX12_act 14 = .ok (.iload_n 1, 1) := by decide +kernel
theorem dX12_act_15 : decode cX12_act 15 = .ok (.iconst 1, 1) := by decide +kernel
theorem dX12_act_16 : decode cX12_act 16 = .ok (.iadd, 1) := by decide +kernel
theorem dX12_act_17 : decode cX12_act 17 = .ok (.aload_n 0, 1) := by decide +kernel
theorem dX12_act_18 : decode cX12_act 18 = .ok (.getfield 320, 3) := by decide +kernel
theorem dX12_act_21 : decode cX12_act 21 = .ok (.invokevirtual 397, 3) := by decide +kernel
theorem dX12_act_24 : decode cX12_act 24 = .ok (.ireturn, 1) := by decide +kernel
theorem dX12_act_25 : decode cX12_act 25 = .ok (.iload_n 2, 1) := by decide +kernel
theorem dX12_act_26 : decode cX12_act 26 = .ok (.bipush 105, 2) := by decide +kernel
theorem dX12_act_28 : decode cX12_act 28 = .ok (.if_icmp .ne 17, 3) := by decide +kernel
theorem dX12_act_31 : decode cX12_act 31 = .ok (.aload_n 0, 1) := by decide +kernel
theorem dX12_act_32 : decode cX12_act 32 = .ok (.iload_n 1, 1) := by decide +kernel
theorem dX12_act_33 : decode cX12_act 33 = .ok (.iconst 1, 1) := by decide +kernel
theorem dX12_act_34 : decode cX12_act 34 = .ok (.iadd, 1) := by decide +kernel
theorem dX12_act_35 : decode cX12_act 35 = .ok (.aload_n 0, 1) := by decide +kernel
theorem dX12_act_36 : decode cX12_act 36 = .ok (.getfield 317, 3) := by decide +kernel
theorem dX12_act_39 : decode cX12_act 39 = .ok (.iconst 1, 1) := by decide +kernel
theorem dX12_act_40 : decode cX12_act 40 = .ok (.isub, 1) := by decide +kernel
theorem dX12_act_41 : decode cX12_act 41 = .ok (.invokevirtual 397, 3) := by decide +kernel
theorem dX12_act_44 : decode cX12_act 44 = .ok (.ireturn, 1) := by decide +kernel
theorem dX12_act_45 : decode cX12_act 45 = .ok (.iload_n 2, 1) := by decide +kernel
theorem dX12_act_46 : decode cX12_act 46 = .ok (.bipush 99, 2) := by decide +kernel
theorem dX12_act_48 : decode cX12_act 48 = .ok (.if_icmp .ne 11, 3) := by decide +kernel
theorem dX12_act_51 : decode cX12_act 51 = .ok (.aload_n 0, 1) := by decide +kernel
theorem dX12_act_52 : decode cX12_act 52 = .ok (.iload_n 1, 1) := by decide +kernel
theorem dX12_act_53 : decode cX12_act 53 = .ok (.iconst 1, 1) := by decide +kernel
theorem dX12_act_54 : decode cX12_act 54 = .ok (.iadd, 1) := by decide +kernel
theorem dX12_act_55 : decode cX12_act 55 = .ok (.invokevirtual 400, 3) := by decide +kernel
theorem dX12_act_58 : decode cX12_act 58 = .ok (.ireturn, 1) := by decide +kernel
theorem dX12_act_59 : decode cX12_act 59 = .ok (.iload_n 2, 1) := by decide +kernel
theorem dX12_act_60 : decode cX12_act 60 = .ok (.bipush 100, 2) := by decide +kernel
theorem dX12_act_62 : decode cX12_act 62 = .ok (.if_icmp .ne 8, 3) := by decide +kernel
theorem dX12_act_65 : decode cX12_act 65 = .ok (.aload_n 0, 1) := by decide +kernel
theorem dX12_act_66 : decode cX12_act 66 = .ok (.invokevirtual 403, 3) := by decide +kernel
theorem dX12_act_69 : decode cX12_act 69 = .ok (.ireturn, 1) := by decide +kernel
theorem dX12_act_70 : decode cX12_act 70 = .ok (.iload_n 2, 1) := by decide +kernel
theorem dX12_act_71 : decode cX12_act 71 = .ok (.bipush 106, 2) := by decide +kernel
theorem dX12_act_73 : decode cX12_act 73 = .ok (.if_icmp .ne 8, 3) := by decide +kernel
theorem dX12_act_76 : decode cX12_act 76 = .ok (.aload_n 0, 1) := by decide +kernel
theorem dX12_act_77 : decode cX12_act 77 = .ok (.invokevirtual 406, 3) := by decide +kernel
theorem dX12_act_80 : decode cX12_act 80 = .ok (.ireturn, 1) := by decide +kernel
theorem dX12_act_81 : decode cX12_act 81 = .ok (.iload_n 2, 1) := by decide +kernel
theorem dX12_act_82 : decode cX12_act 82 = .ok (.bipush 118, 2) := by decide +kernel
theorem dX12_act_84 : decode cX12_act 84 = .ok (.if_icmp .ne 15, 3) := by decide +kernel
theorem dX12_act_87 : decode cX12_act 87 = .ok (.aload_n 0, 1) := by decide +kernel
theorem dX12_act_88 : decode cX12_act 88 = .ok (.aload_n 0, 1) := by decide +kernel
theorem dX12_act_89 : decode cX12_act 89 = .ok (.iload_n 1, 1) := by decide +kernel
theorem dX12_act_90 : decode cX12_act 90 = .ok (.iconst 1, 1) := by decide +kernel
theorem dX12_act_91 : decode cX12_act 91 = .ok (.iadd, 1) := by decide +kernel
theorem dX12_act_92 : decode cX12_act 92 = .ok (.invokevirtual 301, 3) := by decide +kernel
theorem dX12_act_95 : decode cX12_act 95 = .ok (.invokevirtual 409, 3) := by decide +kernel
theorem dX12_act_98 : decode cX12_act 98 = .ok (.ireturn, 1) := by decide +kernel
theorem dX12_act_99 : decode cX12_act 99 = .ok (.iload_n 2, 1) := by decide +kernel
theorem dX12_act_100 : decode cX12_act 100 = .ok (.bipush 108, 2) := by decide +kernel
theorem dX12_act_102 : decode cX12_act 102 = .ok (.if_icmp .ne 8, 3) := by decide +kernel
theorem dX12_act_105 : decode cX12_act 105 = .ok (.aload_n 0, 1) := by decide +kernel
theorem dX12_act_106 : decode cX12_act 106 = .ok (.invokevirtual 412, 3) := by decide +kernel
theorem dX12_act_109 : decode cX12_act 109 = .ok (.ireturn, 1) := by decide +kernel
theorem dX12_act_110 : decode cX12_act 110 = .ok (.iload_n 2, 1) := by decide +kernel
theorem dX12_act_111 : decode cX12_act 111 = .ok (.bipush 112, 2) := by decide +kernel
theorem dX12_act_113 : decode cX12_act 113 = .ok (.if_icmp .eq 9, 3) := by decide +kernel
theorem dX12_act_116 : decode cX12_act 116 = .ok (.iload_n 2, 1) := by decide +kernel
theorem dX12_act_117 : decode cX12_act 117 = .ok (.bipush 110, 2) := by decide +kernel
theorem dX12_act_119 : decode cX12_act 119 = .ok (.if_icmp .ne 19, 3) := by decide +kernel
theorem dX12_act_122 : decode cX12_act 122 = .ok (.aload_n 0, 1) := by decide +kernel
theorem dX12_act_123 : decode cX12_act 123 = .ok (.iload_n 2, 1) := by decide +kernel
theorem dX12_act_124 : decode cX12_act 124 = .ok (.bipush 110, 2) := by decide +kernel
theorem dX12_act_126 : decode cX12_act 126 = .ok (.if_icmp .ne 7, 3) := by decide +kernel
theorem dX12_act_129 : decode cX12_act 129 = .ok (.iconst 1, 1) := by decide +kernel
theorem dX12_act_130 : decode cX12_act 130 = .ok (.goto 4, 3) := by decide +kernel
theorem dX12_act_133 : decode cX12_act 133 = .ok (.iconst 0, 1) := by decide +kernel
theorem dX12_act_134 : decode cX12_act 134 = .ok (.invokevirtual 415, 3) := by decide +kernel
theorem dX12_act_137 : decode cX12_act 137 = .ok (.ireturn, 1) := by decide +kernel
theorem dX12_act_138 : decode cX12_act 138 = .ok (.iload_n 2, 1) := by decide +kernel
theorem dX12_act_139 : decode cX12_act 139 = .ok (.bipush 61, 2) := by decide +kernel
theorem dX12_act_141 : decode cX12_act 141 = .ok (.if_icmp .ne 21, 3) := by decide +kernel
theorem dX12_act_144 : decode cX12_act 144 = .ok (.aload_n 0, 1) := by decide +kernel
theorem dX12_act_145 : decode cX12_act 145 = .ok (.iconst 0, 1) := by decide +kernel
theorem dX12_act_146 : decode cX12_act 146 = .ok (.putfield 117, 3) := by decide +kernel
theorem dX12_act_149 : decode cX12_act 149 = .ok (.aload_n 0, 1) := by decide +kernel
theorem dX12_act_150 : decode cX12_act 150 = .ok (.aload_n 0, 1) := by decide +kernel
theorem dX12_act_151 : decode cX12_act 151 = .ok (.getfield 320, 3) := by decide +kernel
theorem dX12_act_154 : decode cX12_act 154 = .ok (.invokevirtual 360, 3) := by decide +kernel
theorem dX12_act_157 : decode cX12_act 157 = .ok (.aload_n 0, 1) := by decide +kernel
theorem dX12_act_158 : decode cX12_act 158 = .ok (.invokevirtual 363, 3) := by decide +kernel
theorem dX12_act_161 : decode cX12_act 161 = .ok (.ireturn, 1) := by decide +kernel
theorem dX12_act_162 : decode cX12_act 162 = .ok (.iload_n 2, 1) := by decide +kernel
theorem dX12_act_163 : decode cX12_act 163 = .ok (.bipush 104, 2) := by decide +kernel
theorem dX12_act_165 : decode cX12_act 165 = .ok (.if_icmp .eq 9, 3) := by decide +kernel
theorem dX12_act_168 : decode cX12_act 168 = .ok (.iload_n 2, 1) := by decide +kernel
theorem dX12_act_169 : decode cX12_act 169 = .ok (.bipush 72, 2) := by decide +kernel
theorem dX12_act_171 : decode cX12_act 171 = .ok (.if_icmp .ne 22, 3) := by decide +kernel
theorem dX12_act_174 : decode cX12_act 174 = .ok (.aload_n 0, 1) := by decide +kernel
theorem dX12_act_175 : decode cX12_act 175 = .ok (.iload_n 2, 1) := by decide +kernel
theorem dX12_act_176 : decode cX12_act 176 = .ok (.bipush 104, 2) := by decide +kernel
theorem dX12_act_178 : decode cX12_act 178 = .ok (.if_icmp .ne 7, 3) := by decide +kernel
theorem dX12_act_181 : decode cX12_act 181 = .ok (.iconst 0, 1) := by decide +kernel
theorem dX12_act_182 : decode cX12_act 182 = .ok (.goto 7, 3) := by decide +kernel
theorem dX12_act_185 : decode cX12_act 185 = .ok (.aload_n 0, 1) := by decide +kernel
theorem dX12_act_186 : decode cX12_act 186 = .ok (.getfield 366, 3) := by decide +kernel
theorem dX12_act_189 : decode cX12_act 189 = .ok (.invokevirtual 418, 3) := by decide +kernel
theorem dX12_act_192 : decode cX12_act 192 = .ok (.ireturn, 1) := by decide +kernel
theorem dX12_act_193 : decode cX12_act 193 = .ok (.iload_n 2, 1) := by decide +kernel
theorem dX12_act_194 : decode cX12_act 194 = .ok (.bipush 117, 2) := by decide +kernel
theorem dX12_act_196 : decode cX12_act 196 = .ok (.if_icmp .ne 8, 3) := by decide +kernel
theorem dX12_act_199 : decode cX12_act 199 = .ok (.aload_n 0, 1) := by decide +kernel
theorem dX12_act_200 : decode cX12_act 200 = .ok (.invokevirtual 421, 3) := by decide +kernel
theorem dX12_act_203 : decode cX12_act 203 = .ok (.ireturn, 1) := by decide +kernel
theorem dX12_act_204 : decode cX12_act 204 = .ok (.iload_n 2, 1) := by decide +kernel
theorem dX12_act_205 : decode cX12_act 205 = .ok (.bipush 101, 2) := by decide +kernel
theorem dX12_act_207 : decode cX12_act 207 = .ok (.if_icmp .ne 8, 3) := by decide +kernel
theorem dX12_act_210 : decode cX12_act 210 = .ok (.aload_n 0, 1) := by decide +kernel
theorem dX12_act_211 : decode cX12_act 211 = .ok (.invokevirtual 424, 3) := by decide +kernel
theorem dX12_act_214 : decode cX12_act 214 = .ok (.ireturn, 1) := by decide +kernel
theorem dX12_act_215 : decode cX12_act 215 = .ok (.aload_n 0, 1) := by decide +kernel
theorem dX12_act_216 : decode cX12_act 216 = .ok (.iload_n 1, 1) := by decide +kernel
theorem dX12_act_217 : decode cX12_act 217 = .ok (.invokevirtual 427, 3) := by decide +kernel
theorem dX12_act_220 : decode cX12_act 220 = .ok (.ireturn, 1) := by decide +kernel
theorem dX12_otherAct_0 : decode cX12_otherAct 0 = .ok (.aload_n 0, 1) := by decide +kernel
theorem dX12_otherAct_1 : decode cX12_otherAct 1 = .ok (.getfield 44, 3) := by decide +kernel
theorem dX12_otherAct_4 : decode cX12_otherAct 4 = .ok (.iload_n 1, 1) := by decide +kernel
theorem dX12_otherAct_5 : decode cX12_otherAct 5 = .ok (.iaload, 1) := by decide +kernel
theorem dX12_otherAct_6 : decode cX12_otherAct 6 = .ok (.istore_n 2, 1) := by decide +kernel
theorem dX12_otherAct_7 : decode cX12_otherAct 7 = .ok (.iload_n 2, 1) := by decide +kernel
theorem dX12_otherAct_8 : decode cX12_otherAct 8 = .ok (.bipush 62, 2) := by decide +kernel
theorem dX12_otherAct_10 : decode cX12_otherAct 10 = .ok (.if_icmp .eq 9, 3) := by decide +kernel
theorem dX12_otherAct_13 : decode cX12_otherAct 13 = .ok (.iload_n 2, 1) := by decide +kernel
theorem dX12_otherAct_14 : decode cX12_otherAct 14 = .ok (.bipush 60, 2) := by decide +kernel
theorem dX12_otherAct_16 : decode cX12_otherAct 16 = .ok (.if_icmp .ne 26, 3) := by decide +kernel
theorem dX12_otherAct_19 : decode cX12_otherAct 19 = .ok (.aload_n 0, 1) := by decide +kernel
theorem dX12_otherAct_20 : decode cX12_otherAct 20 = .ok (.aload_n 0, 1) := by decide +kernel
theorem dX12_otherAct_21 : decode cX12_otherAct 21 = .ok (.iload_n 1, 1) := by decide +kernel
theorem dX12_otherAct_22 : decode cX12_otherAct 22 = .ok (.iconst 1, 1) := by decide +kernel
theorem dX12_otherAct_23 : decode cX12_otherAct 23 = .ok (.iadd, 1) := by decide +kernel
theorem dX12_otherAct_24 : decode cX12_otherAct 24 = .ok (.invokevirtual 301, 3) := by decide +kernel
theorem dX12_otherAct_27 : decode cX12_otherAct 27 = .ok (.iload_n 2, 1) := by decide +kernel
theorem dX12_otherAct_28 : decode cX12_otherAct 28 = .ok (.bipush 62, 2) := by decide +kernel
theorem dX12_otherAct_30 : decode cX12_otherAct 30 = .ok (.if_icmp .ne 7, 3) := by decide +kernel
theorem dX12_otherAct_33 : decode cX12_otherAct 33 = .ok (.iconst 1, 1) := by decide +kernel
theorem dX12_otherAct_34 : decode cX12_otherAct 34 = .ok (.goto 4, 3) := by decide +kernel
theorem dX12_otherAct_37 : decode cX12_otherAct 37 = .ok (.iconst 0, 1) := by decide +kernel
theorem dX12_otherAct_38 : decode cX12_otherAct 38 = .ok (.invokevirtual 430, 3) := by decide +kernel
theorem dX12_otherAct_41 : decode cX12_otherAct 41 = .ok (.ireturn, 1) := by decide +kernel
theorem dX12_otherAct_42 : decode cX12_otherAct 42 = .ok (.iload_n 2, 1) := by decide +kernel
theorem dX12_otherAct_43 : decode cX12_otherAct 43 = .ok (.bipush 111, 2) := by decide +kernel
theorem dX12_otherAct_45 : decode cX12_otherAct 45 = .ok (.if_icmp .eq 9, 3) := by decide +kernel
theorem dX12_otherAct_48 : decode cX12_otherAct 48 = .ok (.iload_n 2, 1) := by decide +kernel
theorem dX12_otherAct_49 : decode cX12_otherAct 49 = .ok (.bipush 79, 2) := by decide +kernel
theorem dX12_otherAct_51 : decode cX12_otherAct 51 = .ok (.if_icmp .ne 26, 3) := by decide +kernel
theorem dX12_otherAct_54 : decode cX12_otherAct 54 = .ok (.aload_n 0, 1) := by decide +kernel
theorem dX12_otherAct_55 : decode cX12_otherAct 55 = .ok (.aload_n 0, 1) := by decide +kernel
theorem dX12_otherAct_56 : decode cX12_otherAct 56 = .ok (.iload_n 1, 1) := by decide +kernel
theorem dX12_otherAct_57 : decode cX12_otherAct 57 = .ok (.iconst 1, 1) := by decide +kernel
theorem dX12_otherAct_58 : decode cX12_otherAct 58 = .ok (.iadd, 1) := by decide +kernel
theorem dX12_otherAct_59 : decode cX12_otherAct 59 = .ok (.invokevirtual 301, 3) := by decide +kernel
theorem dX12_otherAct_62 : decode cX12_otherAct 62 = .ok (.iload_n 2, 1) := by decide +kernel
theorem dX12_otherAct_63 : decode cX12_otherAct 63 = .ok (.bipush 111, 2) := by decide +kernel
theorem dX12_otherAct_65 : decode cX12_otherAct 65 = .ok (.if_icmp .ne 7, 3) := by decide +kernel
theorem dX12_otherAct_68 : decode cX12_otherAct 68 = .ok (.iconst 1, 1) := by decide +kernel
theorem dX12_otherAct_69 : decode cX12_otherAct 69 = .ok (.goto 4, 3) := by decide +kernel
theorem dX12_otherAct_72 : decode cX12_otherAct 72 = .ok (.iconst 0, 1) := by decide +kernel
theorem dX12_otherAct_73 : decode cX12_otherAct 73 = .ok (.invokevirtual 434, 3) := by decide +kernel
theorem dX12_otherAct_76 : decode cX12_otherAct 76 = .ok (.ireturn, 1) := by decide +kernel
theorem dX12_otherAct_77 : decode cX12_otherAct 77 = .ok (.iload_n 2, 1) := by decide +kernel
theorem dX12_otherAct_78 : decode cX12_otherAct 78 = .ok (.bipush 109, 2) := by decide +kernel
theorem dX12_otherAct_80 : decode cX12_otherAct 80 = .ok (.if_icmp .ne 11, 3) := by decide +kernel
theorem dX12_otherAct_83 : decode cX12_otherAct 83 = .ok (.aload_n 0, 1) := by decide +kernel
theorem dX12_otherAct_84 : decode cX12_otherAct 84 = .ok (.iload_n 1, 1) := by decide +kernel
theorem dX12_otherAct_85 : decode cX12_otherAct 85 = .ok (.iconst 1, 1) := by decide +kernel
theorem dX12_otherAct_86 : decode cX12_otherAct 86 = .ok (.iadd, 1) := by decide +kernel
theorem dX12_otherAct_87 : decode cX12_otherAct 87 = .ok (.invokevirtual 437, 3) := by decide +kernel
theorem dX12_otherAct_90 : decode cX12_otherAct 90 = .ok (.ireturn, 1) := by decide +kernel
theorem dX12_otherAct_91 : decode cX12_otherAct 91 = .ok (.iload_n 2, 1) := by decide +kernel
theorem dX12_otherAct_92 : decode cX12_otherAct 92 = .ok (.bipush 116, 2) := by decide +kernel
theorem dX12_otherAct_94 : decode cX12_otherAct 94 = .ok (.if_icmp .ne 11, 3) := by decide +kernel
theorem dX12_otherAct_97 : decode cX12_otherAct 97 = .ok (.aload_n 0, 1) := by decide +kernel
theorem dX12_otherAct_98 : decode cX12_otherAct 98 = .ok (.iload_n 1, 1) := by decide +kernel
theorem dX12_otherAct_99 : decode cX12_otherAct 99 = .ok (.iconst 1, 1) := by decide +kernel
theorem dX12_otherAct_100 : decode cX12_otherAct 100 = .ok (.iadd, 1) := by decide +kernel
theorem dX12_otherAct_101 : decode cX12_otherAct 101 = .ok (.invokevirtual 440, 3) := by decide +kernel
theorem dX12_otherAct_104 : decode cX12_otherAct 104 = .ok (.ireturn, 1) := by decide +kernel
theorem dX12_otherAct_105 : decode cX12_otherAct 105 = .ok (.iload_n 2, 1) := by decide +kernel
theorem dX12_otherAct_106 : decode cX12_otherAct 106 = .ok (.bipush 115, 2) := by decide +kernel
theorem dX12_otherAct_108 : decode cX12_otherAct 108 = .ok (.if_icmp .ne 9, 3) := by decide +kernel
theorem dX12_otherAct_111 : decode cX12_otherAct 111 = .ok (.aload_n 0, 1) := by decide +kernel
theorem dX12_otherAct_112 : decode cX12_otherAct 112 = .ok (.iload_n 1, 1) := by decide +kernel
theorem dX12_otherAct_113 : decode cX12_otherAct 113 = .ok (.invokevirtual 443, 3) := by decide +kernel
theorem dX12_otherAct_116 : decode cX12_otherAct 116 = .ok (.ireturn, 1) := by decide +kernel
theorem dX12_otherAct_117 : decode cX12_otherAct 117 = .ok (.iload_n 2, 1) := by decide +kernel
theorem dX12_otherAct_118 : decode cX12_otherAct 118 = .ok (.bipush 122, 2) := by decide +kernel
theorem dX12_otherAct_120 : decode cX12_otherAct 120 = .ok (.if_icmp .ne 9, 3) := by decide +kernel
theorem dX12_otherAct_123 : decode cX12_otherAct 123 = .ok (.aload_n 0, 1) := by decide +kernel
theorem dX12_otherAct_124 : decode cX12_otherAct 124 = .ok (.iload_n 1, 1) := by decide +kernel
theorem dX12_otherAct_125 : decode cX12_otherAct 125 = .ok (.invokevirtual 446, 3) := by decide +kernel
theorem dX12_otherAct_128 : decode cX12_otherAct 128 = .ok (.ireturn, 1) := by decide +kernel
theorem dX12_otherAct_129 : decode cX12_otherAct 129 = .ok (.iload_n 2, 1) := by decide +kernel
theorem dX12_otherAct_130 : decode cX12_otherAct 130 = .ok (.bipush 114, 2) := by decide +kernel
theorem dX12_otherAct_132 : decode cX12_otherAct 132 = .ok (.if_icmp .ne 19, 3) := by decide +kernel
theorem dX12_otherAct_135 : decode cX12_otherAct 135 = .ok (.aload_n 0, 1) := by decide +kernel
theorem dX12_otherAct_136 : decode cX12_otherAct 136 = .ok (.aload_n 0, 1) := by decide +kernel
theorem dX12_otherAct_137 : decode cX12_otherAct 137 = .ok (.getfield 44, 3) := by decide +kernel
theorem dX12_otherAct_140 : decode cX12_otherAct 140 = .ok (.iload_n 1, 1) := by decide +kernel
theorem dX12_otherAct_141 : decode cX12_otherAct 141 = .ok (.iconst 1, 1) := by decide +kernel
theorem dX12_otherAct_142 : decode cX12_otherAct 142 = .ok (.iadd, 1) := by decide +kernel
theorem dX12_otherAct_143 : decode cX12_otherAct 143 = .ok (.iaload, 1) := by decide +kernel
theorem dX12_otherAct_144 : decode cX12_otherAct 144 = .ok (.bipush 48, 2) := by decide +kernel
theorem dX12_otherAct_146 : decode cX12_otherAct 146 = .ok (.isub, 1) := by decide +kernel
theorem dX12_otherAct_147 : decode cX12_otherAct 147 = .ok (.invokevirtual 449, 3) := by decide +kernel
theorem dX12_otherAct_150 : decode cX12_otherAct 150 = .ok (.ireturn, 1) := by decide +kernel
theorem dX12_otherAct_151 : decode cX12_otherAct 151 = .ok (.iload_n 2, 1) := by decide +kernel
theorem dX12_otherAct_152 : decode cX12_otherAct 152 = .ok (.bipush 119, 2) := by decide +kernel
theorem dX12_otherAct_154 : decode cX12_otherAct 154 = .ok (.if_icmp .ne 19, 3) := by decide +kernel
theorem dX12_otherAct_157 : decode cX12_otherAct 157 = .ok (.aload_n 0, 1) := by decide +kernel
theorem dX12_otherAct_158 : decode cX12_otherAct 158 = .ok (.aload_n 0, 1) := by decide +kernel
theorem dX12_otherAct_159 : decode cX12_otherAct 159 = .ok (.getfield 44, 3) := by decide +kernel
theorem dX12_otherAct_162 : decode cX12_otherAct 162 = .ok (.iload_n 1, 1) := by decide +kernel
theorem dX12_otherAct_163 : decode cX12_otherAct 163 = .ok (.iconst 1, 1) := by decide +kernel
theorem dX12_otherAct_164 : decode cX12_otherAct 164 = .ok (.iadd, 1) := by decide +kernel
theorem dX12_otherAct_165 : decode cX12_otherAct 165 = .ok (.iaload, 1) := by decide +kernel
theorem dX12_otherAct_166 : decode cX12_otherAct 166 = .ok (.bipush 48, 2) := by decide +kernel
theorem dX12_otherAct_168 : decode cX12_otherAct 168 = .ok (.isub, 1) := by decide +kernel
theorem dX12_otherAct_169 : decode cX12_otherAct 169 = .ok (.invokevirtual 452, 3) := by decide +kernel
theorem dX12_otherAct_172 : decode cX12_otherAct 172 = .ok (.ireturn, 1) := by decide +kernel
theorem dX12_otherAct_173 : decode cX12_otherAct 173 = .ok (.aload_n 0, 1) := by decide +kernel
theorem dX12_otherAct_174 : decode cX12_otherAct 174 = .ok (.getfield 35, 3) := by decide +kernel
theorem dX12_otherAct_177 : decode cX12_otherAct 177 = .ok (.aload_n 0, 1) := by decide +kernel
theorem dX12_otherAct_178 : decode cX12_otherAct 178 = .ok (.getfield 44, 3) := by decide +kernel
theorem dX12_otherAct_181 : decode cX12_otherAct 181 = .ok (.iload_n 1, 1) := by decide +kernel
theorem dX12_otherAct_182 : decode cX12_otherAct 182 = .ok (.iconst 1, 1) := by decide +kernel
theorem dX12_otherAct_183 : decode cX12_otherAct 183 = .ok (.iadd, 1) := by decide +kernel
theorem dX12_otherAct_184 : decode cX12_otherAct 184 = .ok (.iaload, 1) := by decide +kernel
theorem dX12_otherAct_185 : decode cX12_otherAct 185 = .ok (.bipush 97, 2) := by decide +kernel
theorem dX12_otherAct_187 : decode cX12_otherAct 187 = .ok (.isub, 1) := by decide +kernel
theorem dX12_otherAct_188 : decode cX12_otherAct 188 = .ok (.aload_n 0, 1) := by decide +kernel
theorem dX12_otherAct_189 : decode cX12_otherAct 189 = .ok (.getfield 26, 3) := by decide +kernel
theorem dX12_otherAct_192 : decode cX12_otherAct 192 = .ok (.aload_n 0, 1) := by decide +kernel
theorem dX12_otherAct_193 : decode cX12_otherAct 193 = .ok (.getfield 320, 3) := by decide +kernel
theorem dX12_otherAct_196 : decode cX12_otherAct 196 = .ok (.iconst 1, 1) := by decide +kernel
theorem dX12_otherAct_197 : decode cX12_otherAct 197 = .ok (.isub, 1) := by decide +kernel
theorem dX12_otherAct_198 : decode cX12_otherAct 198 = .ok (.iaload, 1) := by decide +kernel
theorem dX12_otherAct_199 : decode cX12_otherAct 199 = .ok (.iastore, 1) := by decide +kernel
theorem dX12_otherAct_200 : decode cX12_otherAct 200 = .ok (.iconst 0, 1) := by decide +kernel
theorem dX12_otherAct_201 : decode cX12_otherAct 201 = .ok (.ireturn, 1) := by decide +kernel
theorem dX12_doInner_0 : decode cX12_doInner 0 = .ok (.aload_n 0, 1) := by decide +kernel
theorem dX12_doInner_1 : decode cX12_doInner 1 = .ok (.getfield 455, 3) := by decide +kernel
theorem dX12_doInner_4 : decode cX12_doInner 4 = .ok (.bipush 60, 2) := by decide +kernel
theorem dX12_doInner_6 : decode cX12_doInner 6 = .ok (.if_icmp .ne 6, 3) := by decide +kernel
theorem dX12_doInner_9 : decode cX12_doInner 9 = .ok (.bipush 7, 2) := by decide +kernel
theorem dX12_doInner_11 : decode cX12_doInner 11 = .ok (.ireturn, 1) := by decide +kernel
theorem dX12_doInner_12 : decode cX12_doInner 12 = .ok (.aload_n 0, 1) := by decide +kernel
theorem dX12_doInner_13 : decode cX12_doInner 13 = .ok (.dup, 1) := by decide +kernel
theorem dX12_doInner_14 : decode cX12_doInner 14 = .ok (.getfield 455, 3) := by decide +kernel
theorem dX12_doInner_17 : decode cX12_doInner 17 = .ok (.iconst 1, 1) := by decide +kernel
theorem dX12_doInner_18 : decode cX12_doInner 18 = .ok (.iadd, 1) := by decide +kernel
theorem dX12_doInner_19 : decode cX12_doInner 19 = .ok (.putfield 455, 3) := by decide +kernel
theorem dX12_doInner_22 : decode cX12_doInner 22 = .ok (.aload_n 0, 1) := by decide +kernel
theorem dX12_doInner_23 : decode cX12_doInner 23 = .ok (.iload_n 1, 1) := by decide +kernel
theorem dX12_doInner_24 : decode cX12_doInner 24 = .ok (.invokevirtual 458, 3) := by decide +kernel
theorem dX12_doInner_27 : decode cX12_doInner 27 = .ok (.aload_n 0, 1) := by decide +kernel
theorem dX12_doInner_28 : decode cX12_doInner 28 = .ok (.getfield 218, 3) := by decide +kernel
theorem dX12_doInner_31 : decode cX12_doInner 31 = .ok (.istore_n 2, 1) := by decide +kernel
theorem dX12_doInner_32 : decode cX12_doInner 32 = .ok (.aload_n 0, 1) := by decide +kernel
theorem dX12_doInner_33 : decode cX12_doInner 33 = .ok (.invokevirtual 461, 3) := by decide +kernel
theorem dX12_doInner_36 : decode cX12_doInner 36 = .ok (.istore_n 3, 1) := by decide +kernel
theorem dX12_doInner_37 : decode cX12_doInner 37 = .ok (.iload_n 3, 1) := by decide +kernel
theorem dX12_doInner_38 : decode cX12_doInner 38 = .ok (.ifCond .le 7, 3) := by decide +kernel
theorem dX12_doInner_41 : decode cX12_doInner 41 = .ok (.iload_n 3, 1) := by decide +kernel
theorem dX12_doInner_42 : decode cX12_doInner 42 = .ok (.goto 8, 3) := by decide +kernel
theorem dX12_doInner_45 : decode cX12_doInner 45 = .ok (.aload_n 0, 1) := by decide +kernel
theorem dX12_doInner_46 : decode cX12_doInner 46 = .ok (.iload_n 2, 1) := by decide +kernel
theorem dX12_doInner_47 : decode cX12_doInner 47 = .ok (.invokevirtual 464, 3) := by decide +kernel
theorem dX12_doInner_50 : decode cX12_doInner 50 = .ok (.ireturn, 1) := by decide +kernel
theorem dX12_doParts_0 : decode cX12_doParts 0 = .ok (.aload_n 0, 1) := by decide +kernel
theorem dX12_doParts_1 : decode cX12_doParts 1 = .ok (.getfield 44, 3) := by decide +kernel
theorem dX12_doParts_4 : decode cX12_doParts 4 = .ok (.iload_n 1, 1) := by decide +kernel
theorem dX12_doParts_5 : decode cX12_doParts 5 = .ok (.iaload, 1) := by decide +kernel
theorem dX12_doParts_6 : decode cX12_doParts 6 = .ok (.bipush 123, 2) := by decide +kernel
theorem dX12_doParts_8 : decode cX12_doParts 8 = .ok (.if_icmp .eq 9, 3) := by decide +kernel
theorem dX12_doParts_11 : decode cX12_doParts 11 = .ok (.aload_n 0, 1) := by decide +kernel
theorem dX12_doParts_12 : decode cX12_doParts 12 = .ok (.iload_n 1, 1) := by decide +kernel
theorem dX12_doParts_13 : decode cX12_doParts 13 = .ok (.invokevirtual 467, 3) := by decide +kernel
theorem dX12_doParts_16 : decode cX12_doParts 16 = .ok (.ireturn, 1) := by decide +kernel
theorem dX12_doParts_17 : decode cX12_doParts 17 = .ok (.iload_n 1, 1) := by decide +kernel
theorem dX12_doParts_18 : decode cX12_doParts 18 = .ok (.iconst 1, 1) := by decide +kernel
theorem dX12_doParts_19 : decode cX12_doParts 19 = .ok (.iadd, 1) := by decide +kernel
theorem dX12_doParts_20 : decode cX12_doParts 20 = .ok (.istore_n 2, 1) := by decide +kernel
theorem dX12_doParts_21 : decode cX12_doParts 21 = .ok (.iconst 1, 1) := by decide +kernel
theorem dX12_doParts_22 : decode cX12_doParts 22 = .ok (.istore_n 3, 1) := by decide +kernel
theorem dX12_doParts_23 : decode cX12_doParts 23 = .ok (.iload_n 3, 1) := by decide +kernel
