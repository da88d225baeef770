theorem dX7_extend_27 : decode cX7_extend 27 = .ok (.iaload, 1) := by decide +kernel
theorem dX7_extend_28 : decode cX7_extend 28 = .ok (.iload 4, 2) := by decide +kernel
theorem dX7_extend_30 : decode cX7_extend 30 = .ok (.iadd, 1) := by decide +kernel
theorem dX7_extend_31 : decode cX7_extend 31 = .ok (.bipush 30, 2) := by decide +kernel
theorem dX7_extend_33 : decode cX7_extend 33 = .ok (.if_icmp .le 5, 3) := by decide +kernel
theorem dX7_extend_36 : decode cX7_extend 36 = .ok (.iconst 0, 1) := by decide +kernel
theorem dX7_extend_37 : decode cX7_extend 37 = .ok (.ireturn, 1) := by decide +kernel
theorem dX7_extend_38 : decode cX7_extend 38 = .ok (.iload_n 1, 1) := by decide +kernel
theorem dX7_extend_39 : decode cX7_extend 39 = .ok (.iconst 1, 1) := by decide +kernel
theorem dX7_extend_40 : decode cX7_extend 40 = .ok (.isub, 1) := by decide +kernel
theorem dX7_extend_41 : decode cX7_extend 41 = .ok (.bipush 30, 2) := by decide +kernel
theorem dX7_extend_43 : decode cX7_extend 43 = .ok (.imul, 1) := by decide +kernel
theorem dX7_extend_44 : decode cX7_extend 44 = .ok (.aload_n 0, 1) := by decide +kernel
theorem dX7_extend_45 : decode cX7_extend 45 = .ok (.getfield 15, 3) := by decide +kernel
theorem dX7_extend_48 : decode cX7_extend 48 = .ok (.iload_n 1, 1) := by decide +kernel
theorem dX7_extend_49 : decode cX7_extend 49 = .ok (.iconst 1, 1) := by decide +kernel
theorem dX7_extend_50 : decode cX7_extend 50 = .ok (.isub, 1) := by decide +kernel
theorem dX7_extend_51 : decode cX7_extend 51 = .ok (.iaload, 1) := by decide +kernel
theorem dX7_extend_52 : decode cX7_extend 52 = .ok (.iadd, 1) := by decide +kernel
theorem dX7_extend_53 : decode cX7_extend 53 = .ok (.istore 5, 2) := by decide +kernel
theorem dX7_extend_55 : decode cX7_extend 55 = .ok (.aload_n 2, 1) := by decide +kernel
theorem dX7_extend_56 : decode cX7_extend 56 = .ok (.getfield 21, 3) := by decide +kernel
theorem dX7_extend_59 : decode cX7_extend 59 = .ok (.iload_n 3, 1) := by decide +kernel
theorem dX7_extend_60 : decode cX7_extend 60 = .ok (.iconst 1, 1) := by decide +kernel
theorem dX7_extend_61 : decode cX7_extend 61 = .ok (.isub, 1) := by decide +kernel
theorem dX7_extend_62 : decode cX7_extend 62 = .ok (.bipush 30, 2) := by decide +kernel
theorem dX7_extend_64 : decode cX7_extend 64 = .ok (.imul, 1) := by decide +kernel
theorem dX7_extend_65 : decode cX7_extend 65 = .ok (.aload_n 0, 1) := by decide +kernel
theorem dX7_extend_66 : decode cX7_extend 66 = .ok (.getfield 21, 3) := by decide +kernel
theorem dX7_extend_69 : decode cX7_extend 69 = .ok (.iload 5, 2) := by decide +kernel
theorem dX7_extend_71 : decode cX7_extend 71 = .ok (.iload 4, 2) := by decide +kernel
theorem dX7_extend_73 : decode cX7_extend 73 = .ok (.invokestatic 32, 3) := by decide +kernel
theorem dX7_extend_76 : decode cX7_extend 76 = .ok (.aload_n 0, 1) := by decide +kernel
theorem dX7_extend_77 : decode cX7_extend 77 = .ok (.getfield 15, 3) := by decide +kernel
theorem dX7_extend_80 : decode cX7_extend 80 = .ok (.iload_n 1, 1) := by decide +kernel
theorem dX7_extend_81 : decode cX7_extend 81 = .ok (.iconst 1, 1) := by decide +kernel
theorem dX7_extend_82 : decode cX7_extend 82 = .ok (.isub, 1) := by decide +kernel
theorem dX7_extend_83 : decode cX7_extend 83 = .ok (.dup2, 1) := by decide +kernel
theorem dX7_extend_84 : decode cX7_extend 84 = .ok (.iaload, 1) := by decide +kernel
theorem dX7_extend_85 : decode cX7_extend 85 = .ok (.iload 4, 2) := by decide +kernel
theorem dX7_extend_87 : decode cX7_extend 87 = .ok (.iadd, 1) := by decide +kernel
theorem dX7_extend_88 : decode cX7_extend 88 = .ok (.iastore, 1) := by decide +kernel
theorem dX7_extend_89 : decode cX7_extend 89 = .ok (.iconst 1, 1) := by decide +kernel
theorem dX7_extend_90 : decode cX7_extend 90 = .ok (.ireturn, 1) := by decide +kernel
theorem dX7_moveRest_0 : decode cX7_moveRest 0 = .ok (.aload_n 0, 1) := by decide +kernel
theorem dX7_moveRest_1 : decode cX7_moveRest 1 = .ok (.iload_n 1, 1) := by decide +kernel
theorem dX7_moveRest_2 : decode cX7_moveRest 2 = .ok (.invokevirtual 38, 3) := by decide +kernel
theorem dX7_moveRest_5 : decode cX7_moveRest 5 = .ok (.ifCond .eq 57, 3) := by decide +kernel
theorem dX7_moveRest_8 : decode cX7_moveRest 8 = .ok (.iload_n 2, 1) := by decide +kernel
theorem dX7_moveRest_9 : decode cX7_moveRest 9 = .ok (.ifCond .lt 53, 3) := by decide +kernel
theorem dX7_moveRest_12 : decode cX7_moveRest 12 = .ok (.iload_n 2, 1) := by decide +kernel
theorem dX7_moveRest_13 : decode cX7_moveRest 13 = .ok (.aload_n 0, 1) := by decide +kernel
theorem dX7_moveRest_14 : decode cX7_moveRest 14 = .ok (.getfield 15, 3) := by decide +kernel
theorem dX7_moveRest_17 : decode cX7_moveRest 17 = .ok (.iload_n 1, 1) := by decide +kernel
theorem dX7_moveRest_18 : decode cX7_moveRest 18 = .ok (.iconst 1, 1) := by decide +kernel
theorem dX7_moveRest_19 : decode cX7_moveRest 19 = .ok (.isub, 1) := by decide +kernel
theorem dX7_moveRest_20 : decode cX7_moveRest 20 = .ok (.iaload, 1) := by decide +kernel
theorem dX7_moveRest_21 : decode cX7_moveRest 21 = .ok (.if_icmp .ge 41, 3) := by decide +kernel
theorem dX7_moveRest_24 : decode cX7_moveRest 24 = .ok (.aload_n 0, 1) := by decide +kernel
theorem dX7_moveRest_25 : decode cX7_moveRest 25 = .ok (.iload_n 1, 1) := by decide +kernel
theorem dX7_moveRest_26 : decode cX7_moveRest 26 = .ok (.iconst 1, 1) := by decide +kernel
theorem dX7_moveRest_27 : decode cX7_moveRest 27 = .ok (.iadd, 1) := by decide +kernel
theorem dX7_moveRest_28 : decode cX7_moveRest 28 = .ok (.aload_n 0, 1) := by decide +kernel
theorem dX7_moveRest_29 : decode cX7_moveRest 29 = .ok (.getfield 21, 3) := by decide +kernel
theorem dX7_moveRest_32 : decode cX7_moveRest 32 = .ok (.iload_n 1, 1) := by decide +kernel
theorem dX7_moveRest_33 : decode cX7_moveRest 33 = .ok (.iconst 1, 1) := by decide +kernel
theorem dX7_moveRest_34 : decode cX7_moveRest 34 = .ok (.isub, 1) := by decide +kernel
theorem dX7_moveRest_35 : decode cX7_moveRest 35 = .ok (.bipush 30, 2) := by decide +kernel
theorem dX7_moveRest_37 : decode cX7_moveRest 37 = .ok (.imul, 1) := by decide +kernel
theorem dX7_moveRest_38 : decode cX7_moveRest 38 = .ok (.iload_n 2, 1) := by decide +kernel
theorem dX7_moveRest_39 : decode cX7_moveRest 39 = .ok (.iadd, 1) := by decide +kernel
theorem dX7_moveRest_40 : decode cX7_moveRest 40 = .ok (.aload_n 0, 1) := by decide +kernel
theorem dX7_moveRest_41 : decode cX7_moveRest 41 = .ok (.getfield 15, 3) := by decide +kernel
theorem dX7_moveRest_44 : decode cX7_moveRest 44 = .ok (.iload_n 1, 1) := by decide +kernel
theorem dX7_moveRest_45 : decode cX7_moveRest 45 = .ok (.iconst 1, 1) := by decide +kernel
theorem dX7_moveRest_46 : decode cX7_moveRest 46 = .ok (.isub, 1) := by decide +kernel
theorem dX7_moveRest_47 : decode cX7_moveRest 47 = .ok (.iaload, 1) := by decide +kernel
theorem dX7_moveRest_48 : decode cX7_moveRest 48 = .ok (.iload_n 2, 1) := by decide +kernel
theorem dX7_moveRest_49 : decode cX7_moveRest 49 = .ok (.isub, 1) := by decide +kernel
theorem dX7_moveRest_50 : decode cX7_moveRest 50 = .ok (.invokevirtual 50, 3) := by decide +kernel
theorem dX7_moveRest_53 : decode cX7_moveRest 53 = .ok (.aload_n 0, 1) := by decide +kernel
theorem dX7_moveRest_54 : decode cX7_moveRest 54 = .ok (.getfield 15, 3) := by decide +kernel
theorem dX7_moveRest_57 : decode cX7_moveRest 57 = .ok (.iload_n 1, 1) := by decide +kernel
theorem dX7_moveRest_58 : decode cX7_moveRest 58 = .ok (.iconst 1, 1) := by decide +kernel
theorem dX7_moveRest_59 : decode cX7_moveRest 59 = .ok (.isub, 1) := by decide +kernel
theorem dX7_moveRest_60 : decode cX7_moveRest 60 = .ok (.iload_n 2, 1) := by decide +kernel
theorem dX7_moveRest_61 : decode cX7_moveRest 61 = .ok (.iastore, 1) := by decide +kernel
theorem dX7_moveRest_62 : decode cX7_moveRest 62 = .ok (.return_, 1) := by decide +kernel
theorem dX7_cutTo_0 : decode cX7_cutTo 0 = .ok (.aload_n 0, 1) := by decide +kernel
theorem dX7_cutTo_1 : decode cX7_cutTo 1 = .ok (.iload_n 1, 1) := by decide +kernel
theorem dX7_cutTo_2 : decode cX7_cutTo 2 = .ok (.invokevirtual 38, 3) := by decide +kernel
theorem dX7_cutTo_5 : decode cX7_cutTo 5 = .ok (.ifCond .eq 28, 3) := by decide +kernel
theorem dX7_cutTo_8 : decode cX7_cutTo 8 = .ok (.iload_n 2, 1) := by decide +kernel
theorem dX7_cutTo_9 : decode cX7_cutTo 9 = .ok (.ifCond .lt 24, 3) := by decide +kernel
theorem dX7_cutTo_12 : decode cX7_cutTo 12 = .ok (.iload_n 2, 1) := by decide +kernel
theorem dX7_cutTo_13 : decode cX7_cutTo 13 = .ok (.aload_n 0, 1) := by decide +kernel
theorem dX7_cutTo_14 : decode cX7_cutTo 14 = .ok (.getfield 15, 3) := by decide +kernel
theorem dX7_cutTo_17 : decode cX7_cutTo 17 = .ok (.iload_n 1, 1) := by decide +kernel
theorem dX7_cutTo_18 : decode cX7_cutTo 18 = .ok (.iconst 1, 1) := by decide +kernel
theorem dX7_cutTo_19 : decode cX7_cutTo 19 = .ok (.isub, 1) := by decide +kernel
theorem dX7_cutTo_20 : decode cX7_cutTo 20 = .ok (.iaload, 1) := by decide +kernel
theorem dX7_cutTo_21 : decode cX7_cutTo 21 = .ok (.if_icmp .ge 12, 3) := by decide +kernel
theorem dX7_cutTo_24 : decode cX7_cutTo 24 = .ok (.aload_n 0, 1) := by decide +kernel
theorem dX7_cutTo_25 : decode cX7_cutTo 25 = .ok (.getfield 15, 3) := by decide +kernel
theorem dX7_cutTo_28 : decode cX7_cutTo 28 = .ok (.iload_n 1, 1) := by decide +kernel
theorem dX7_cutTo_29 : decode cX7_cutTo 29 = .ok (.iconst 1, 1) := by decide +kernel
theorem dX7_cutTo_30 : decode cX7_cutTo 30 = .ok (.isub, 1) := by decide +kernel
theorem dX7_cutTo_31 : decode cX7_cutTo 31 = .ok (.iload_n 2, 1) := by decide +kernel
theorem dX7_cutTo_32 : decode cX7_cutTo 32 = .ok (.iastore, 1) := by decide +kernel
theorem dX7_cutTo_33 : decode cX7_cutTo 33 = .ok (.return_, 1) := by decide +kernel
theorem dX7_same_0 : decode cX7_same 0 = .ok (.aload_n 0, 1) := by decide +kernel
theorem dX7_same_1 : decode cX7_same 1 = .ok (.iload_n 1, 1) := by decide +kernel
theorem dX7_same_2 : decode cX7_same 2 = .ok (.invokevirtual 42, 3) := by decide +kernel
theorem dX7_same_5 : decode cX7_same 5 = .ok (.istore 4, 2) := by decide +kernel
theorem dX7_same_7 : decode cX7_same 7 = .ok (.iload 4, 2) := by decide +kernel
theorem dX7_same_9 : decode cX7_same 9 = .ok (.aload_n 2, 1) := by decide +kernel
theorem dX7_same_10 : decode cX7_same 10 = .ok (.iload_n 3, 1) := by decide +kernel
theorem dX7_same_11 : decode cX7_same 11 = .ok (.invokevirtual 42, 3) := by decide +kernel
theorem dX7_same_14 : decode cX7_same 14 = .ok (.if_icmp .eq 5, 3) := by decide +kernel
theorem dX7_same_17 : decode cX7_same 17 = .ok (.iconst 0, 1) := by decide +kernel
theorem dX7_same_18 : decode cX7_same 18 = .ok (.ireturn, 1) := by decide +kernel
theorem dX7_same_19 : decode cX7_same 19 = .ok (.iconst 0, 1) := by decide +kernel
theorem dX7_same_20 : decode cX7_same 20 = .ok (.istore 5, 2) := by decide +kernel
theorem dX7_same_22 : decode cX7_same 22 = .ok (.iload 5, 2) := by decide +kernel
theorem dX7_same_24 : decode cX7_same 24 = .ok (.iload 4, 2) := by decide +kernel
theorem dX7_same_26 : decode cX7_same 26 = .ok (.if_icmp .ge 28, 3) := by decide +kernel
theorem dX7_same_29 : decode cX7_same 29 = .ok (.aload_n 0, 1) := by decide +kernel
theorem dX7_same_30 : decode cX7_same 30 = .ok (.iload_n 1, 1) := by decide +kernel
theorem dX7_same_31 : decode cX7_same 31 = .ok (.iload 5, 2) := by decide +kernel
theorem dX7_same_33 : decode cX7_same 33 = .ok (.invokevirtual 54, 3) := by decide +kernel
theorem dX7_same_36 : decode cX7_same 36 = .ok (.aload_n 2, 1) := by decide +kernel
theorem dX7_same_37 : decode cX7_same 37 = .ok (.iload_n 3, 1) := by decide +kernel
theorem dX7_same_38 : decode cX7_same 38 = .ok (.iload 5, 2) := by decide +kernel
theorem dX7_same_40 : decode cX7_same 40 = .ok (.invokevirtual 54, 3) := by decide +kernel
theorem dX7_same_43 : decode cX7_same 43 = .ok (.if_icmp .eq 5, 3) := by decide +kernel
theorem dX7_same_46 : decode cX7_same 46 = .ok (.iconst 0, 1) := by decide +kernel
theorem dX7_same_47 : decode cX7_same 47 = .ok (.ireturn, 1) := by decide +kernel
theorem dX7_same_48 : decode cX7_same 48 = .ok (.iinc 5 1, 3) := by decide +kernel
theorem dX7_same_51 : decode cX7_same 51 = .ok (.goto (-29), 3) := by decide +kernel
theorem dX7_same_54 : decode cX7_same 54 = .ok (.iconst 1, 1) := by decide +kernel
theorem dX7_same_55 : decode cX7_same 55 = .ok (.ireturn, 1) := by decide +kernel
theorem dX7_compareFrom_0 : decode cX7_compareFrom 0 = .ok (.iload_n 1, 1) := by decide +kernel
theorem dX7_compareFrom_1 : decode cX7_compareFrom 1 = .ok (.istore 4, 2) := by decide +kernel
theorem dX7_compareFrom_3 : decode cX7_compareFrom 3 = .ok (.iload 4, 2) := by decide +kernel
theorem dX7_compareFrom_5 : decode cX7_compareFrom 5 = .ok (.bipush 30, 2) := by decide +kernel
theorem dX7_compareFrom_7 : decode cX7_compareFrom 7 = .ok (.if_icmp .ge 42, 3) := by decide +kernel
theorem dX7_compareFrom_10 : decode cX7_compareFrom 10 = .ok (.aload_n 0, 1) := by decide +kernel
theorem dX7_compareFrom_11 : decode cX7_compareFrom 11 = .ok (.iload_n 2, 1) := by decide +kernel
theorem dX7_compareFrom_12 : decode cX7_compareFrom 12 = .ok (.iload 4, 2) := by decide +kernel
theorem dX7_compareFrom_14 : decode cX7_compareFrom 14 = .ok (.invokevirtual 54, 3) := by decide +kernel
theorem dX7_compareFrom_17 : decode cX7_compareFrom 17 = .ok (.istore 5, 2) := by decide +kernel
theorem dX7_compareFrom_19 : decode cX7_compareFrom 19 = .ok (.aload_n 0, 1) := by decide +kernel
theorem dX7_compareFrom_20 : decode cX7_compareFrom 20 = .ok (.iload_n 3, 1) := by decide +kernel
theorem dX7_compareFrom_21 : decode cX7_compareFrom 21 = .ok (.iload 4, 2) := by decide +kernel
theorem dX7_compareFrom_23 : decode cX7_compareFrom 23 = .ok (.invokevirtual 54, 3) := by decide +kernel
theorem dX7_compareFrom_26 : decode cX7_compareFrom 26 = .ok (.istore 6, 2) := by decide +kernel
theorem dX7_compareFrom_28 : decode cX7_compareFrom 28 = .ok (.iload 5, 2) := by decide +kernel
theorem dX7_compareFrom_30 : decode cX7_compareFrom 30 = .ok (.iload 6, 2) := by decide +kernel
theorem dX7_compareFrom_32 : decode cX7_compareFrom 32 = .ok (.if_icmp .eq 11, 3) := by decide +kernel
theorem dX7_compareFrom_35 : decode cX7_compareFrom 35 = .ok (.iload 5, 2) := by decide +kernel
theorem dX7_compareFrom_37 : decode cX7_compareFrom 37 = .ok (.iload 6, 2) := by decide +kernel
theorem dX7_compareFrom_39 : decode cX7_compareFrom 39 = .ok (.invokestatic 57, 3) := by decide +kernel
theorem dX7_compareFrom_42 : decode cX7_compareFrom 42 = .ok (.ireturn, 1) := by decide +kernel
theorem dX7_compareFrom_43 : decode cX7_compareFrom 43 = .ok (.iinc 4 1, 3) := by decide +kernel
theorem dX7_compareFrom_46 : decode cX7_compareFrom 46 = .ok (.goto (-43), 3) := by decide +kernel
theorem dX7_compareFrom_49 : decode cX7_compareFrom 49 = .ok (.iconst 0, 1) := by decide +kernel
theorem dX7_compareFrom_50 : decode cX7_compareFrom 50 = .ok (.ireturn, 1) := by decide +kernel
theorem dX8_init_0 : decode cX8_init 0 = .ok (.aload_n 0, 1) := by decide +kernel
theorem dX8_init_1 : decode cX8_init 1 = .ok (.invokespecial 3, 3) := by decide +kernel
theorem dX8_init_4 : decode cX8_init 4 = .ok (.aload_n 0, 1) := by decide +kernel
theorem dX8_init_5 : decode cX8_init 5 = .ok (.new 9, 3) := by decide +kernel
theorem dX8_init_8 : decode cX8_init 8 = .ok (.dup, 1) := by decide +kernel
theorem dX8_init_9 : decode cX8_init 9 = .ok (.bipush 40, 2) := by decide +kernel
theorem dX8_init_11 : decode cX8_init 11 = .ok (.invokespecial 11, 3) := by decide +kernel
theorem dX8_init_14 : decode cX8_init 14 = .ok (.putfield 14, 3) := by decide +kernel
theorem dX8_init_17 : decode cX8_init 17 = .ok (.aload_n 0, 1) := by decide +kernel
theorem dX8_init_18 : decode cX8_init 18 = .ok (.new 9, 3) := by decide +kernel
theorem dX8_init_21 : decode cX8_init 21 = .ok (.dup, 1) := by decide +kernel
theorem dX8_init_22 : decode cX8_init 22 = .ok (.bipush 100, 2) := by decide +kernel
theorem dX8_init_24 : decode cX8_init 24 = .ok (.invokespecial 11, 3) := by decide +kernel
theorem dX8_init_27 : decode cX8_init 27 = .ok (.putfield 20, 3) := by decide +kernel
theorem dX8_init_30 : decode cX8_init 30 = .ok (.aload_n 0, 1) := by decide +kernel
theorem dX8_init_31 : decode cX8_init 31 = .ok (.iconst 4, 1) := by decide +kernel
theorem dX8_init_32 : decode cX8_init 32 = .ok (.anewarray 9, 3) := by decide +kernel
theorem dX8_init_35 : decode cX8_init 35 = .ok (.putfield 23, 3) := by decide +kernel
theorem dX8_init_38 : decode cX8_init 38 = .ok (.iconst 0, 1) := by decide +kernel
theorem dX8_init_39 : decode cX8_init 39 = .ok (.istore_n 1, 1) := by decide +kernel
theorem dX8_init_40 : decode cX8_init 40 = .ok (.iload_n 1, 1) := by decide +kernel
theorem dX8_init_41 : decode cX8_init 41 = .ok (.iconst 4, 1) := by decide +kernel
theorem dX8_init_42 : decode cX8_init 42 = .ok (.if_icmp .ge 24, 3) := by decide +kernel
theorem dX8_init_45 : decode cX8_init 45 = .ok (.aload_n 0, 1) := by decide +kernel
theorem dX8_init_46 : decode cX8_init 46 = .ok (.getfield 23, 3) := by decide +kernel
theorem dX8_init_49 : decode cX8_init 49 = .ok (.iload_n 1, 1) := by decide +kernel
theorem dX8_init_50 : decode cX8_init 50 = .ok (.new 9, 3) := by decide +kernel
theorem dX8_init_53 : decode cX8_init 53 = .ok (.dup, 1) := by decide +kernel
theorem dX8_init_54 : decode cX8_init 54 = .ok (.bipush 40, 2) := by decide +kernel
theorem dX8_init_56 : decode cX8_init 56 = .ok (.invokespecial 11, 3) := by decide +kernel
theorem dX8_init_59 : decode cX8_init 59 = .ok (.aastore, 1) := by decide +kernel
theorem dX8_init_60 : decode cX8_init 60 = .ok (.iinc 1 1, 3) := by decide +kernel
theorem dX8_init_63 : decode cX8_init 63 = .ok (.goto (-23), 3) := by decide +kernel
theorem dX8_init_66 : decode cX8_init 66 = .ok (.aload_n 0, 1) := by decide +kernel
theorem dX8_init_67 : decode cX8_init 67 = .ok (.bipush 30, 2) := by decide +kernel
theorem dX8_init_69 : decode cX8_init 69 = .ok (.newarray .byte, 2) := by decide +kernel
theorem dX8_init_71 : decode cX8_init 71 = .ok (.putfield 27, 3) := by decide +kernel
theorem dX8_init_74 : decode cX8_init 74 = .ok (.return_, 1) := by decide +kernel
theorem dX8_copy_0 : decode cX8_copy 0 = .ok (.aload_n 0, 1) := by decide +kernel
theorem dX8_copy_1 : decode cX8_copy 1 = .ok (.getfield 14, 3) := by decide +kernel
theorem dX8_copy_4 : decode cX8_copy 4 = .ok (.aload_n 1, 1) := by decide +kernel
theorem dX8_copy_5 : decode cX8_copy 5 = .ok (.getfield 14, 3) := by decide +kernel
theorem dX8_copy_8 : decode cX8_copy 8 = .ok (.invokevirtual 31, 3) := by decide +kernel
theorem dX8_copy_11 : decode cX8_copy 11 = .ok (.aload_n 0, 1) := by decide +kernel
theorem dX8_copy_12 : decode cX8_copy 12 = .ok (.getfield 20, 3) := by decide +kernel
theorem dX8_copy_15 : decode cX8_copy 15 = .ok (.aload_n 1, 1) := by decide +kernel
theorem dX8_copy_16 : decode cX8_copy 16 = .ok (.getfield 20, 3) := by decide +kernel
theorem dX8_copy_19 : decode cX8_copy 19 = .ok (.invokevirtual 31, 3) := by decide +kernel
theorem dX8_copy_22 : decode cX8_copy 22 = .ok (.iconst 0, 1) := by decide +kernel
theorem dX8_copy_23 : decode cX8_copy 23 = .ok (.istore_n 2, 1) := by decide +kernel
theorem dX8_copy_24 : decode cX8_copy 24 = .ok (.iload_n 2, 1) := by decide +kernel
theorem dX8_copy_25 : decode cX8_copy 25 = .ok (.iconst 4, 1) := by decide +kernel
theorem dX8_copy_26 : decode cX8_copy 26 = .ok (.if_icmp .ge 37, 3) := by decide +kernel
theorem dX8_copy_29 : decode cX8_copy 29 = .ok (.aload_n 0, 1) := by decide +kernel
theorem dX8_copy_30 : decode cX8_copy 30 = .ok (.iload_n 2, 1) := by decide +kernel
theorem dX8_copy_31 : decode cX8_copy 31 = .ok (.invokevirtual 35, 3) := by decide +kernel
theorem dX8_copy_34 : decode cX8_copy 34 = .ok (.astore_n 3, 1) := by decide +kernel
theorem dX8_copy_35 : decode cX8_copy 35 = .ok (.aload_n 1, 1) := by decide +kernel
theorem dX8_copy_36 : decode cX8_copy 36 = .ok (.iload_n 2, 1) := by decide +kernel
theorem dX8_copy_37 : decode cX8_copy 37 = .ok (.invokevirtual 35, 3) := by decide +kernel
theorem dX8_copy_40 : decode cX8_copy 40 = .ok (.astore 4, 2) := by decide +kernel
theorem dX8_copy_42 : decode cX8_copy 42 = .ok (.aload_n 3, 1) := by decide +kernel
theorem dX8_copy_43 : decode cX8_copy 43 = .ok (.ifnull 14, 3) := by decide +kernel
theorem dX8_copy_46 : decode cX8_copy 46 = .ok (.aload 4, 2) := by decide +kernel
theorem dX8_copy_48 : decode cX8_copy 48 = .ok (.ifnull 9, 3) := by decide +kernel
theorem dX8_copy_51 : decode cX8_copy 51 = .ok (.aload_n 3, 1) := by decide +kernel
theorem dX8_copy_52 : decode cX8_copy 52 = .ok (.aload 4, 2) := by decide +kernel
theorem dX8_copy_54 : decode cX8_copy 54 = .ok (.invokevirtual 31, 3) := by decide +kernel
theorem dX8_copy_57 : decode cX8_copy 57 = .ok (.iinc 2 1, 3) := by decide +kernel
theorem dX8_copy_60 : decode cX8_copy 60 = .ok (.goto (-36), 3) := by decide +kernel
theorem dX8_copy_63 : decode cX8_copy 63 = .ok (.return_, 1) := by decide +kernel
theorem dX8_file_0 : decode cX8_file 0 = .ok (.iload_n 1, 1) := by decide +kernel
theorem dX8_file_1 : decode cX8_file 1 = .ok (.ifCond .lt 21, 3) := by decide +kernel
theorem dX8_file_4 : decode cX8_file 4 = .ok (.iload_n 1, 1) := by decide +kernel
theorem dX8_file_5 : decode cX8_file 5 = .ok (.aload_n 0, 1) := by decide +kernel
theorem dX8_file_6 : decode cX8_file 6 = .ok (.getfield 23, 3) := by decide +kernel
theorem dX8_file_9 : decode cX8_file 9 = .ok (.arraylength, 1) := by decide +kernel
theorem dX8_file_10 : decode cX8_file 10 = .ok (.if_icmp .ge 12, 3) := by decide +kernel
theorem dX8_file_13 : decode cX8_file 13 = .ok (.aload_n 0, 1) := by decide +kernel
theorem dX8_file_14 : decode cX8_file 14 = .ok (.getfield 23, 3) := by decide +kernel
theorem dX8_file_17 : decode cX8_file 17 = .ok (.iload_n 1, 1) := by decide +kernel
theorem dX8_file_18 : decode cX8_file 18 = .ok (.aaload, 1) := by decide +kernel
theorem dX8_file_19 : decode cX8_file 19 = .ok (.goto 4, 3) := by decide +kernel
theorem dX8_file_22 : decode cX8_file 22 = .ok (.aconst_null, 1) := by decide +kernel
theorem dX8_file_23 : decode cX8_file 23 = .ok (.areturn, 1) := by decide +kernel
theorem dX8_print_0 : decode cX8_print 0 = .ok (.aload_n 0, 1) := by decide +kernel
theorem dX8_print_1 : decode cX8_print 1 = .ok (.getfield 20, 3) := by decide +kernel
theorem dX8_print_4 : decode cX8_print 4 = .ok (.getfield 39, 3) := by decide +kernel
theorem dX8_print_7 : decode cX8_print 7 = .ok (.istore 5, 2) := by decide +kernel
theorem dX8_print_9 : decode cX8_print 9 = .ok (.iload_n 2, 1) := by decide +kernel
theorem dX8_print_10 : decode cX8_print 10 = .ok (.istore 6, 2) := by decide +kernel
theorem dX8_print_12 : decode cX8_print 12 = .ok (.iload 6, 2) := by decide +kernel
theorem dX8_print_14 : decode cX8_print 14 = .ok (.iload_n 3, 1) := by decide +kernel
theorem dX8_print_15 : decode cX8_print 15 = .ok (.if_icmp .gt 130, 3) := by decide +kernel
theorem dX8_print_18 : decode cX8_print 18 = .ok (.iload 4, 2) := by decide +kernel
theorem dX8_print_20 : decode cX8_print 20 = .ok (.iconst (-1), 1) := by decide +kernel
theorem dX8_print_21 : decode cX8_print 21 = .ok (.if_icmp .ne 7, 3) := by decide +kernel
theorem dX8_print_24 : decode cX8_print 24 = .ok (.iconst 0, 1) := by decide +kernel
theorem dX8_print_25 : decode cX8_print 25 = .ok (.goto 15, 3) := by decide +kernel
theorem dX8_print_28 : decode cX8_print 28 = .ok (.aload_n 0, 1) := by decide +kernel
theorem dX8_print_29 : decode cX8_print 29 = .ok (.iload 4, 2) := by decide +kernel
theorem dX8_print_31 : decode cX8_print 31 = .ok (.iload 6, 2) := by decide +kernel
theorem dX8_print_33 : decode cX8_print 33 = .ok (.iadd, 1) := by decide +kernel
theorem dX8_print_34 : decode cX8_print 34 = .ok (.iload_n 2, 1) := by decide +kernel
theorem dX8_print_35 : decode cX8_print 35 = .ok (.isub, 1) := by decide +kernel
theorem dX8_print_36 : decode cX8_print 36 = .ok (.iconst 1, 1) := by decide +kernel
theorem dX8_print_37 : decode cX8_print 37 = .ok (.invokevirtual 43, 3) := by decide +kernel
theorem dX8_print_40 : decode cX8_print 40 = .ok (.istore 7, 2) := by decide +kernel
theorem dX8_print_42 : decode cX8_print 42 = .ok (.aload_n 1, 1) := by decide +kernel
theorem dX8_print_43 : decode cX8_print 43 = .ok (.iload 6, 2) := by decide +kernel
theorem dX8_print_45 : decode cX8_print 45 = .ok (.invokevirtual 47, 3) := by decide +kernel
theorem dX8_print_48 : decode cX8_print 48 = .ok (.istore 8, 2) := by decide +kernel
theorem dX8_print_50 : decode cX8_print 50 = .ok (.iconst 0, 1) := by decide +kernel
theorem dX8_print_51 : decode cX8_print 51 = .ok (.istore 9, 2) := by decide +kernel
theorem dX8_print_53 : decode cX8_print 53 = .ok (.iload 9, 2) := by decide +kernel
theorem dX8_print_55 : decode cX8_print 55 = .ok (.iload 8, 2) := by decide +kernel
theorem dX8_print_57 : decode cX8_print 57 = .ok (.if_icmp .ge 41, 3) := by decide +kernel
theorem dX8_print_60 : decode cX8_print 60 = .ok (.iload 7, 2) := by decide +kernel
theorem dX8_print_62 : decode cX8_print 62 = .ok (.iload 9, 2) := by decide +kernel
theorem dX8_print_64 : decode cX8_print 64 = .ok (.iadd, 1) := by decide +kernel
theorem dX8_print_65 : decode cX8_print 65 = .ok (.aload_n 0, 1) := by decide +kernel
theorem dX8_print_66 : decode cX8_print 66 = .ok (.getfield 27, 3) := by decide +kernel
theorem dX8_print_69 : decode cX8_print 69 = .ok (.arraylength, 1) := by decide +kernel
theorem dX8_print_70 : decode cX8_print 70 = .ok (.if_icmp .ge 28, 3) := by decide +kernel
theorem dX8_print_73 : decode cX8_print 73 = .ok (.aload_n 0, 1) := by decide +kernel
theorem dX8_print_74 : decode cX8_print 74 = .ok (.getfield 27, 3) := by decide +kernel
theorem dX8_print_77 : decode cX8_print 77 = .ok (.iload 7, 2) := by decide +kernel
theorem dX8_print_79 : decode cX8_print 79 = .ok (.iload 9, 2) := by decide +kernel
theorem dX8_print_81 : decode cX8_print 81 = .ok (.iadd, 1) := by decide +kernel
theorem dX8_print_82 : decode cX8_print 82 = .ok (.aload_n 1, 1) := by decide +kernel
theorem dX8_print_83 : decode cX8_print 83 = .ok (.iload 6, 2) := by decide +kernel
theorem dX8_print_85 : decode cX8_print 85 = .ok (.iload 9, 2) := by decide +kernel
theorem dX8_print_87 : decode cX8_print 87 = .ok (.invokevirtual 51, 3) := by decide +kernel
theorem dX8_print_90 : decode cX8_print 90 = .ok (.i2b, 1) := by decide +kernel
theorem dX8_print_91 : decode cX8_print 91 = .ok (.bastore, 1) := by decide +kernel
theorem dX8_print_92 : decode cX8_print 92 = .ok (.iinc 9 1, 3) := by decide +kernel
theorem dX8_print_95 : decode cX8_print 95 = .ok (.goto (-42), 3) := by decide +kernel
theorem dX8_print_98 : decode cX8_print 98 = .ok (.iload 7, 2) := by decide +kernel
theorem dX8_print_100 : decode cX8_print 100 = .ok (.iload 8, 2) := by decide +kernel
theorem dX8_print_102 : decode cX8_print 102 = .ok (.iadd, 1) := by decide +kernel
theorem dX8_print_103 : decode cX8_print 103 = .ok (.bipush 30, 2) := by decide +kernel
theorem dX8_print_105 : decode cX8_print 105 = .ok (.if_icmp .gt 23, 3) := by decide +kernel
theorem dX8_print_108 : decode cX8_print 108 = .ok (.aload_n 0, 1) := by decide +kernel
theorem dX8_print_109 : decode cX8_print 109 = .ok (.getfield 20, 3) := by decide +kernel
theorem dX8_print_112 : decode cX8_print 112 = .ok (.aload_n 0, 1) := by decide +kernel
theorem dX8_print_113 : decode cX8_print 113 = .ok (.getfield 27, 3) := by decide +kernel
theorem dX8_print_116 : decode cX8_print 116 = .ok (.iconst 0, 1) := by decide +kernel
theorem dX8_print_117 : decode cX8_print 117 = .ok (.iload 7, 2) := by decide +kernel
theorem dX8_print_119 : decode cX8_print 119 = .ok (.iload 8, 2) := by decide +kernel
theorem dX8_print_121 : decode cX8_print 121 = .ok (.iadd, 1) := by decide +kernel
theorem dX8_print_122 : decode cX8_print 122 = .ok (.invokevirtual 55, 3) := by decide +kernel
theorem dX8_print_125 : decode cX8_print 125 = .ok (.ifCond .ne 14, 3) := by decide +kernel
theorem dX8_print_128 : decode cX8_print 128 = .ok (.aload_n 0, 1) := by decide +kernel
theorem dX8_print_129 : decode cX8_print 129 = .ok (.getfield 20, 3) := by decide +kernel
theorem dX8_print_132 : decode cX8_print 132 = .ok (.iload 5, 2) := by decide +kernel
theorem dX8_print_134 : decode cX8_print 134 = .ok (.invokevirtual 59, 3) := by decide +kernel
theorem dX8_print_137 : decode cX8_print 137 = .ok (.iconst 4, 1) := by decide +kernel
theorem dX8_print_138 : decode cX8_print 138 = .ok (.ireturn, 1) := by decide +kernel
theorem dX8_print_139 : decode cX8_print 139 = .ok (.iinc 6 1, 3) := by decide +kernel
theorem dX8_print_142 : decode cX8_print 142 = .ok (.goto (-130), 3) := by decide +kernel
theorem dX8_print_145 : decode cX8_print 145 = .ok (.iconst 0, 1) := by decide +kernel
theorem dX8_print_146 : decode cX8_print 146 = .ok (.ireturn, 1) := by decide +kernel
theorem dX8_printNumber_0 : decode cX8_printNumber 0 = .ok (.aload_n 0, 1) := by decide +kernel
theorem dX8_printNumber_1 : decode cX8_printNumber 1 = .ok (.getfield 20, 3) := by decide +kernel
theorem dX8_printNumber_4 : decode cX8_printNumber 4 = .ok (.aload_n 0, 1) := by decide +kernel
theorem dX8_printNumber_5 : decode cX8_printNumber 5 = .ok (.getfield 27, 3) := by decide +kernel
theorem dX8_printNumber_8 : decode cX8_printNumber 8 = .ok (.iconst 0, 1) := by decide +kernel
theorem dX8_printNumber_9 : decode cX8_printNumber 9 = .ok (.aload_n 0, 1) := by decide +kernel
theorem dX8_printNumber_10 : decode cX8_printNumber 10 = .ok (.iload_n 1, 1) := by decide +kernel
theorem dX8_printNumber_11 : decode cX8_printNumber 11 = .ok (.iconst 0, 1) := by decide +kernel
theorem dX8_printNumber_12 : decode cX8_printNumber 12 = .ok (.invokevirtual 43, 3) := by decide +kernel
theorem dX8_printNumber_15 : decode cX8_printNumber 15 = .ok (.invokevirtual 55, 3) := by decide +kernel
theorem dX8_printNumber_18 : decode cX8_printNumber 18 = .ok (.ifCond .eq 7, 3) := by decide +kernel
theorem dX8_printNumber_21 : decode cX8_printNumber 21 = .ok (.iconst 0, 1) := by decide +kernel
theorem dX8_printNumber_22 : decode cX8_printNumber 22 = .ok (.goto 4, 3) := by decide +kernel
theorem dX8_printNumber_25 : decode cX8_printNumber 25 = .ok (.iconst 4, 1) := by decide +kernel
theorem dX8_printNumber_26 : decode cX8_printNumber 26 = .ok (.ireturn, 1) := by decide +kernel
theorem dX8_writeNumber_0 : decode cX8_writeNumber 0 = .ok (.iconst 0, 1) := by decide +kernel
theorem dX8_writeNumber_1 : decode cX8_writeNumber 1 = .ok (.istore_n 3, 1) := by decide +kernel
theorem dX8_writeNumber_2 : decode cX8_writeNumber 2 = .ok (.iload_n 1, 1) := by decide +kernel
theorem dX8_writeNumber_3 : decode cX8_writeNumber 3 = .ok (.bipush 10, 2) := by decide +kernel
theorem dX8_writeNumber_5 : decode cX8_writeNumber 5 = .ok (.if_icmp .lt 23, 3) := by decide +kernel
theorem dX8_writeNumber_8 : decode cX8_writeNumber 8 = .ok (.aload_n 0, 1) := by decide +kernel
theorem dX8_writeNumber_9 : decode cX8_writeNumber 9 = .ok (.getfield 27, 3) := by decide +kernel
theorem dX8_writeNumber_12 : decode cX8_writeNumber 12 = .ok (.iload_n 3, 1) := by decide +kernel
theorem dX8_writeNumber_13 : decode cX8_writeNumber 13 = .ok (.bipush 48, 2) := by decide +kernel
theorem dX8_writeNumber_15 : decode cX8_writeNumber 15 = .ok (.iload_n 1, 1) := by decide +kernel
theorem dX8_writeNumber_16 : decode cX8_writeNumber 16 = .ok (.bipush 10, 2) := by decide +kernel
theorem dX8_writeNumber_18 : decode cX8_writeNumber 18 = .ok (.idiv, 1) := by decide +kernel
theorem dX8_writeNumber_19 : decode cX8_writeNumber 19 = .ok (.bipush 10, 2) := by decide +kernel
theorem dX8_writeNumber_21 : decode cX8_writeNumber 21 = .ok (.irem, 1) := by decide +kernel
theorem dX8_writeNumber_22 : decode cX8_writeNumber 22 = .ok (.iadd, 1) := by decide +kernel
theorem dX8_writeNumber_23 : decode cX8_writeNumber 23 = .ok (.i2b, 1) := by decide +kernel
theorem dX8_writeNumber_24 : decode cX8_writeNumber 24 = .ok (.bastore, 1) := by decide +kernel
theorem dX8_writeNumber_25 : decode cX8_writeNumber 25 = .ok (.iinc 3 1, 3) := by decide +kernel
theorem dX8_writeNumber_28 : decode cX8_writeNumber 28 = .ok (.aload_n 0, 1) := by decide +kernel
theorem dX8_writeNumber_29 : decode cX8_writeNumber 29 = .ok (.getfield 27, 3) := by decide +kernel
theorem dX8_writeNumber_32 : decode cX8_writeNumber 32 = .ok (.iload_n 3, 1) := by decide +kernel
theorem dX8_writeNumber_33 : decode cX8_writeNumber 33 = .ok (.bipush 48, 2) := by decide +kernel
theorem dX8_writeNumber_35 : decode cX8_writeNumber 35 = .ok (.iload_n 1, 1) := by decide +kernel
theorem dX8_writeNumber_36 : decode cX8_writeNumber 36 = .ok (.bipush 10, 2) := by decide +kernel
theorem dX8_writeNumber_38 : decode cX8_writeNumber 38 = .ok (.irem, 1) := by decide +kernel
theorem dX8_writeNumber_39 : decode cX8_writeNumber 39 = .ok (.iadd, 1) := by decide +kernel
theorem dX8_writeNumber_40 : decode cX8_writeNumber 40 = .ok (.i2b, 1) := by decide +kernel
theorem dX8_writeNumber_41 : decode cX8_writeNumber 41 = .ok (.bastore, 1) := by decide +kernel
theorem dX8_writeNumber_42 : decode cX8_writeNumber 42 = .ok (.iinc 3 1, 3) := by decide +kernel
theorem dX8_writeNumber_45 : decode cX8_writeNumber 45 = .ok (.iload_n 2, 1) := by decide +kernel
theorem dX8_writeNumber_46 : decode cX8_writeNumber 46 = .ok (.ifCond .eq 14, 3) := by decide +kernel
theorem dX8_writeNumber_49 : decode cX8_writeNumber 49 = .ok (.aload_n 0, 1) := by decide +kernel
theorem dX8_writeNumber_50 : decode cX8_writeNumber 50 = .ok (.getfield 27, 3) := by decide +kernel
theorem dX8_writeNumber_53 : decode cX8_writeNumber 53 = .ok (.iload_n 3, 1) := by decide +kernel
theorem dX8_writeNumber_54 : decode cX8_writeNumber 54 = .ok (.bipush 32, 2) := by decide +kernel
theorem dX8_writeNumber_56 : decode cX8_writeNumber 56 = .ok (.bastore, 1) := by decide +kernel
theorem dX8_writeNumber_57 : decode cX8_writeNumber 57 = .ok (.iinc 3 1, 3) := by decide +kernel
theorem dX8_writeNumber_60 : decode cX8_writeNumber 60 = .ok (.iload_n 3, 1) := by decide +kernel
theorem dX8_writeNumber_61 : decode cX8_writeNumber 61 = .ok (.ireturn, 1) := by decide +kernel
theorem dX8_hold_0 : decode cX8_hold 0 = .ok (.aload_n 0, 1) := by decide +kernel
theorem dX8_hold_1 : decode cX8_hold 1 = .ok (.getfield 14, 3) := by decide +kernel
theorem dX8_hold_4 : decode cX8_hold 4 = .ok (.iconst 0, 1) := by decide +kernel
theorem dX8_hold_5 : decode cX8_hold 5 = .ok (.invokevirtual 59, 3) := by decide +kernel
theorem dX8_hold_8 : decode cX8_hold 8 = .ok (.iload_n 2, 1) := by decide +kernel
theorem dX8_hold_9 : decode cX8_hold 9 = .ok (.istore 4, 2) := by decide +kernel
theorem dX8_hold_11 : decode cX8_hold 11 = .ok (.iload 4, 2) := by decide +kernel
theorem dX8_hold_13 : decode cX8_hold 13 = .ok (.iload_n 3, 1) := by decide +kernel
theorem dX8_hold_14 : decode cX8_hold 14 = .ok (.if_icmp .gt 20, 3) := by decide +kernel
theorem dX8_hold_17 : decode cX8_hold 17 = .ok (.aload_n 0, 1) := by decide +kernel
theorem dX8_hold_18 : decode cX8_hold 18 = .ok (.getfield 14, 3) := by decide +kernel
theorem dX8_hold_21 : decode cX8_hold 21 = .ok (.aload_n 1, 1) := by decide +kernel
theorem dX8_hold_22 : decode cX8_hold 22 = .ok (.iload 4, 2) := by decide +kernel
theorem dX8_hold_24 : decode cX8_hold 24 = .ok (.invokevirtual 62, 3) := by decide +kernel
theorem dX8_hold_27 : decode cX8_hold 27 = .ok (.pop, 1) := by decide +kernel
theorem dX8_hold_28 : decode cX8_hold 28 = .ok (.iinc 4 1, 3) := by decide +kernel
theorem dX8_hold_31 : decode cX8_hold 31 = .ok (.goto (-20), 3) := by decide +kernel
theorem dX8_hold_34 : decode cX8_hold 34 = .ok (.return_, 1) := by decide +kernel
theorem dX8_holdMore_0 : decode cX8_holdMore 0 = .ok (.aload_n 0, 1) := by decide +kernel
theorem dX8_holdMore_1 : decode cX8_holdMore 1 = .ok (.getfield 14, 3) := by decide +kernel
theorem dX8_holdMore_4 : decode cX8_holdMore 4 = .ok (.getfield 39, 3) := by decide +kernel
theorem dX8_holdMore_7 : decode cX8_holdMore 7 = .ok (.iload_n 3, 1) := by decide +kernel
theorem dX8_holdMore_8 : decode cX8_holdMore 8 = .ok (.iadd, 1) := by decide +kernel
theorem dX8_holdMore_9 : decode cX8_holdMore 9 = .ok (.iload_n 2, 1) := by decide +kernel
theorem dX8_holdMore_10 : decode cX8_holdMore 10 = .ok (.isub, 1) := by decide +kernel
theorem dX8_holdMore_11 : decode cX8_holdMore 11 = .ok (.iconst 1, 1) := by decide +kernel
theorem dX8_holdMore_12 : decode cX8_holdMore 12 = .ok (.iadd, 1) := by decide +kernel
theorem dX8_holdMore_13 : decode cX8_holdMore 13 = .ok (.bipush 40, 2) := by decide +kernel
theorem dX8_holdMore_15 : decode cX8_holdMore 15 = .ok (.if_icmp .le 5, 3) := by decide +kernel
theorem dX8_holdMore_18 : decode cX8_holdMore 18 = .ok (.iconst 4, 1) := by decide +kernel
theorem dX8_holdMore_19 : decode cX8_holdMore 19 = .ok (.ireturn, 1) := by decide +kernel
theorem dX8_holdMore_20 : decode cX8_holdMore 20 = .ok (.iload_n 2, 1) := by decide +kernel
theorem dX8_holdMore_21 : decode cX8_holdMore 21 = .ok (.istore 4, 2) := by decide +kernel
theorem dX8_holdMore_23 : decode cX8_holdMore 23 = .ok (.iload 4, 2) := by decide +kernel
theorem dX8_holdMore_25 : decode cX8_holdMore 25 = .ok (.iload_n 3, 1) := by decide +kernel
theorem dX8_holdMore_26 : decode cX8_holdMore 26 = .ok (.if_icmp .gt 20, 3) := by decide +kernel
theorem dX8_holdMore_29 : decode cX8_holdMore 29 = .ok (.aload_n 0, 1) := by decide +kernel
theorem dX8_holdMore_30 : decode cX8_holdMore 30 = .ok (.getfield 14, 3) := by decide +kernel
theorem dX8_holdMore_33 : decode cX8_holdMore 33 = .ok (.aload_n 1, 1) := by decide +kernel
theorem dX8_holdMore_34 : decode cX8_holdMore 34 = .ok (.iload 4, 2) := by decide +kernel
theorem dX8_holdMore_36 : decode cX8_holdMore 36 = .ok (.invokevirtual 62, 3) := by decide +kernel
theorem dX8_holdMore_39 : decode cX8_holdMore 39 = .ok (.pop, 1) := by decide +kernel
theorem dX8_holdMore_40 : decode cX8_holdMore 40 = .ok (.iinc 4 1, 3) := by decide +kernel
theorem dX8_holdMore_43 : decode cX8_holdMore 43 = .ok (.goto (-20), 3) := by decide +kernel
theorem dX8_holdMore_46 : decode cX8_holdMore 46 = .ok (.iconst 0, 1) := by decide +kernel
theorem dX8_holdMore_47 : decode cX8_holdMore 47 = .ok (.ireturn, 1) := by decide +kernel
theorem dX8_isWell_0 : decode cX8_isWell 0 = .ok (.aload_n 0, 1) := by decide +kernel
theorem dX8_isWell_1 : decode cX8_isWell 1 = .ok (.getfield 14, 3) := by decide +kernel
theorem dX8_isWell_4 : decode cX8_isWell 4 = .ok (.getfield 39, 3) := by decide +kernel
theorem dX8_isWell_7 : decode cX8_isWell 7 = .ok (.bipush 40, 2) := by decide +kernel
theorem dX8_isWell_9 : decode cX8_isWell 9 = .ok (.if_icmp .gt 15, 3) := by decide +kernel
theorem dX8_isWell_12 : decode cX8_isWell 12 = .ok (.aload_n 0, 1) := by decide +kernel
theorem dX8_isWell_13 : decode cX8_isWell 13 = .ok (.getfield 20, 3) := by decide +kernel
theorem dX8_isWell_16 : decode cX8_isWell 16 = .ok (.getfield 39, 3) := by decide +kernel
theorem dX8_isWell_19 : decode cX8_isWell 19 = .ok (.bipush 100, 2) := by decide +kernel
theorem dX8_isWell_21 : decode cX8_isWell 21 = .ok (.if_icmp .le 5, 3) := by decide +kernel
theorem dX8_isWell_24 : decode cX8_isWell 24 = .ok (.iconst 0, 1) := by decide +kernel
theorem dX8_isWell_25 : decode cX8_isWell 25 = .ok (.ireturn, 1) := by decide +kernel
theorem dX8_isWell_26 : decode cX8_isWell 26 = .ok (.iconst 0, 1) := by decide +kernel
theorem dX8_isWell_27 : decode cX8_isWell 27 = .ok (.istore_n 1, 1) := by decide +kernel
theorem dX8_isWell_28 : decode cX8_isWell 28 = .ok (.iload_n 1, 1) := by decide +kernel
theorem dX8_isWell_29 : decode cX8_isWell 29 = .ok (.iconst 4, 1) := by decide +kernel
theorem dX8_isWell_30 : decode cX8_isWell 30 = .ok (.if_icmp .ge 30, 3) := by decide +kernel
theorem dX8_isWell_33 : decode cX8_isWell 33 = .ok (.aload_n 0, 1) := by decide +kernel
theorem dX8_isWell_34 : decode cX8_isWell 34 = .ok (.iload_n 1, 1) := by decide +kernel
theorem dX8_isWell_35 : decode cX8_isWell 35 = .ok (.invokevirtual 35, 3) := by decide +kernel
theorem dX8_isWell_38 : decode cX8_isWell 38 = .ok (.astore_n 2, 1) := by decide +kernel
theorem dX8_isWell_39 : decode cX8_isWell 39 = .ok (.aload_n 2, 1) := by decide +kernel
theorem dX8_isWell_40 : decode cX8_isWell 40 = .ok (.ifnull 12, 3) := by decide +kernel
theorem dX8_isWell_43 : decode cX8_isWell 43 = .ok (.aload_n 2, 1) := by decide +kernel
theorem dX8_isWell_44 : decode cX8_isWell 44 = .ok (.getfield 39, 3) := by decide +kernel
theorem dX8_isWell_47 : decode cX8_isWell 47 = .ok (.bipush 40, 2) := by decide +kernel
theorem dX8_isWell_49 : decode cX8_isWell 49 = .ok (.if_icmp .le 5, 3) := by decide +kernel
theorem dX8_isWell_52 : decode cX8_isWell 52 = .ok (.iconst 0, 1) := by decide +kernel
theorem dX8_isWell_53 : decode cX8_isWell 53 = .ok (.ireturn, 1) := by decide +kernel
theorem dX8_isWell_54 : decode cX8_isWell 54 = .ok (.iinc 1 1, 3) := by decide +kernel
theorem dX8_isWell_57 : decode cX8_isWell 57 = .ok (.goto (-29), 3) := by decide +kernel
theorem dX8_isWell_60 : decode cX8_isWell 60 = .ok (.iconst 1, 1) := by decide +kernel
theorem dX8_isWell_61 : decode cX8_isWell 61 = .ok (.ireturn, 1) := by decide +kernel
theorem dX9_init_0 : decode cX9_init 0 = .ok (.aload_n 0, 1) := by decide +kernel
theorem dX9_init_1 : decode cX9_init 1 = .ok (.invokespecial 3, 3) := by decide +kernel
theorem dX9_init_4 : decode cX9_init 4 = .ok (.aload_n 0, 1) := by decide +kernel
theorem dX9_init_5 : decode cX9_init 5 = .ok (.new 9, 3) := by decide +kernel
theorem dX9_init_8 : decode cX9_init 8 = .ok (.dup, 1) := by decide +kernel
theorem dX9_init_9 : decode cX9_init 9 = .ok (.bipush 40, 2) := by decide +kernel
theorem dX9_init_11 : decode cX9_init 11 = .ok (.invokespecial 11, 3) := by decide +kernel
theorem dX9_init_14 : decode cX9_init 14 = .ok (.putfield 14, 3) := by decide +kernel
theorem dX9_init_17 : decode cX9_init 17 = .ok (.aload_n 0, 1) := by decide +kernel
theorem dX9_init_18 : decode cX9_init 18 = .ok (.bipush 40, 2) := by decide +kernel
theorem dX9_init_20 : decode cX9_init 20 = .ok (.newarray .int, 2) := by decide +kernel
theorem dX9_init_22 : decode cX9_init 22 = .ok (.putfield 20, 3) := by decide +kernel
theorem dX9_init_25 : decode cX9_init 25 = .ok (.aload_n 0, 1) := by decide +kernel
theorem dX9_init_26 : decode cX9_init 26 = .ok (.iconst 5, 1) := by decide +kernel
theorem dX9_init_27 : decode cX9_init 27 = .ok (.newarray .int, 2) := by decide +kernel
theorem dX9_init_29 : decode cX9_init 29 = .ok (.putfield 24, 3) := by decide +kernel
theorem dX9_init_32 : decode cX9_init 32 = .ok (.iconst 0, 1) := by decide +kernel
theorem dX9_init_33 : decode cX9_init 33 = .ok (.istore_n 1, 1) := by decide +kernel
theorem dX9_init_34 : decode cX9_init 34 = .ok (.iload_n 1, 1) := by decide +kernel
theorem dX9_init_35 : decode cX9_init 35 = .ok (.iconst 5, 1) := by decide +kernel
theorem dX9_init_36 : decode cX9_init 36 = .ok (.if_icmp .ge 16, 3) := by decide +kernel
theorem dX9_init_39 : decode cX9_init 39 = .ok (.aload_n 0, 1) := by decide +kernel
theorem dX9_init_40 : decode cX9_init 40 = .ok (.getfield 24, 3) := by decide +kernel
theorem dX9_init_43 : decode cX9_init 43 = .ok (.iload_n 1, 1) := by decide +kernel
theorem dX9_init_44 : decode cX9_init 44 = .ok (.iconst (-1), 1) := by decide +kernel
theorem dX9_init_45 : decode cX9_init 45 = .ok (.iastore, 1) := by decide +kernel
theorem dX9_init_46 : decode cX9_init 46 = .ok (.iinc 1 1, 3) := by decide +kernel
theorem dX9_init_49 : decode cX9_init 49 = .ok (.goto (-15), 3) := by decide +kernel
theorem dX9_init_52 : decode cX9_init 52 = .ok (.return_, 1) := by decide +kernel
theorem dX9_copy_0 : decode cX9_copy 0 = .ok (.aload_n 0, 1) := by decide +kernel
theorem dX9_copy_1 : decode cX9_copy 1 = .ok (.getfield 14, 3) := by decide +kernel
theorem dX9_copy_4 : decode cX9_copy 4 = .ok (.aload_n 1, 1) := by decide +kernel
theorem dX9_copy_5 : decode cX9_copy 5 = .ok (.getfield 14, 3) := by decide +kernel
theorem dX9_copy_8 : decode cX9_copy 8 = .ok (.invokevirtual 27, 3) := by decide +kernel
theorem dX9_copy_11 : decode cX9_copy 11 = .ok (.aload_n 1, 1) := by decide +kernel
theorem dX9_copy_12 : decode cX9_copy 12 = .ok (.getfield 20, 3) := by decide +kernel
theorem dX9_copy_15 : decode cX9_copy 15 = .ok (.iconst 0, 1) := by decide +kernel
theorem dX9_copy_16 : decode cX9_copy 16 = .ok (.aload_n 0, 1) := by decide +kernel
theorem dX9_copy_17 : decode cX9_copy 17 = .ok (.getfield 20, 3) := by decide +kernel
theorem dX9_copy_20 : decode cX9_copy 20 = .ok (.iconst 0, 1) := by decide +kernel
theorem dX9_copy_21 : decode cX9_copy 21 = .ok (.bipush 40, 2) := by decide +kernel
theorem dX9_copy_23 : decode cX9_copy 23 = .ok (.invokestatic 31, 3) := by decide +kernel
theorem dX9_copy_26 : decode cX9_copy 26 = .ok (.aload_n 1, 1) := by decide +kernel
theorem dX9_copy_27 : decode cX9_copy 27 = .ok (.getfield 24, 3) := by decide +kernel
theorem dX9_copy_30 : decode cX9_copy 30 = .ok (.iconst 0, 1) := by decide +kernel
theorem dX9_copy_31 : decode cX9_copy 31 = .ok (.aload_n 0, 1) := by decide +kernel
theorem dX9_copy_32 : decode cX9_copy 32 = .ok (.getfield 24, 3) := by decide +kernel
theorem dX9_copy_35 : decode cX9_copy 35 = .ok (.iconst 0, 1) := by decide +kernel
theorem dX9_copy_36 : decode cX9_copy 36 = .ok (.iconst 5, 1) := by decide +kernel
theorem dX9_copy_37 : decode cX9_copy 37 = .ok (.invokestatic 31, 3) := by decide +kernel
theorem dX9_copy_40 : decode cX9_copy 40 = .ok (.aload_n 0, 1) := by decide +kernel
theorem dX9_copy_41 : decode cX9_copy 41 = .ok (.aload_n 1, 1) := by decide +kernel
theorem dX9_copy_42 : decode cX9_copy 42 = .ok (.getfield 37, 3) := by decide +kernel
theorem dX9_copy_45 : decode cX9_copy 45 = .ok (.putfield 37, 3) := by decide +kernel
theorem dX9_copy_48 : decode cX9_copy 48 = .ok (.return_, 1) := by decide +kernel
theorem dX9_idOf_0 : decode cX9_idOf 0 = .ok (.iload_n 1, 1) := by decide +kernel
theorem dX9_idOf_1 : decode cX9_idOf 1 = .ok (.iconst 1, 1) := by decide +kernel
theorem dX9_idOf_2 : decode cX9_idOf 2 = .ok (.if_icmp .lt 34, 3) := by decide +kernel
theorem dX9_idOf_5 : decode cX9_idOf 5 = .ok (.iload_n 1, 1) := by decide +kernel
theorem dX9_idOf_6 : decode cX9_idOf 6 = .ok (.aload_n 0, 1) := by decide +kernel
theorem dX9_idOf_7 : decode cX9_idOf 7 = .ok (.getfield 14, 3) := by decide +kernel
theorem dX9_idOf_10 : decode cX9_idOf 10 = .ok (.getfield 41, 3) := by decide +kernel
theorem dX9_idOf_13 : decode cX9_idOf 13 = .ok (.if_icmp .gt 23, 3) := by decide +kernel
theorem dX9_idOf_16 : decode cX9_idOf 16 = .ok (.iload_n 1, 1) := by decide +kernel
theorem dX9_idOf_17 : decode cX9_idOf 17 = .ok (.aload_n 0, 1) := by decide +kernel
theorem dX9_idOf_18 : decode cX9_idOf 18 = .ok (.getfield 20, 3) := by decide +kernel
theorem dX9_idOf_21 : decode cX9_idOf 21 = .ok (.arraylength, 1) := by decide +kernel
theorem dX9_idOf_22 : decode cX9_idOf 22 = .ok (.if_icmp .gt 14, 3) := by decide +kernel
theorem dX9_idOf_25 : decode cX9_idOf 25 = .ok (.aload_n 0, 1) := by decide +kernel
theorem dX9_idOf_26 : decode cX9_idOf 26 = .ok (.getfield 20, 3) := by decide +kernel
theorem dX9_idOf_29 : decode cX9_idOf 29 = .ok (.iload_n 1, 1) := by decide +kernel
theorem dX9_idOf_30 : decode cX9_idOf 30 = .ok (.iconst 1, 1) := by decide +kernel
theorem dX9_idOf_31 : decode cX9_idOf 31 = .ok (.isub, 1) := by decide +kernel
theorem dX9_idOf_32 : decode cX9_idOf 32 = .ok (.iaload, 1) := by decide +kernel
theorem dX9_idOf_33 : decode cX9_idOf 33 = .ok (.goto 4, 3) := by decide +kernel
theorem dX9_idOf_36 : decode cX9_idOf 36 = .ok (.iconst (-1), 1) := by decide +kernel
theorem dX9_idOf_37 : decode cX9_idOf 37 = .ok (.ireturn, 1) := by decide +kernel
theorem dX9_numberOf_0 : decode cX9_numberOf 0 = .ok (.iconst 1, 1) := by decide +kernel
theorem dX9_numberOf_1 : decode cX9_numberOf 1 = .ok (.istore_n 2, 1) := by decide +kernel
theorem dX9_numberOf_2 : decode cX9_numberOf 2 = .ok (.iload_n 2, 1) := by decide +kernel
theorem dX9_numberOf_3 : decode cX9_numberOf 3 = .ok (.aload_n 0, 1) := by decide +kernel
theorem dX9_numberOf_4 : decode cX9_numberOf 4 = .ok (.getfield 14, 3) := by decide +kernel
theorem dX9_numberOf_7 : decode cX9_numberOf 7 = .ok (.getfield 41, 3) := by decide +kernel
theorem dX9_numberOf_10 : decode cX9_numberOf 10 = .ok (.if_icmp .gt 32, 3) := by decide +kernel
theorem dX9_numberOf_13 : decode cX9_numberOf 13 = .ok (.iload_n 2, 1) := by decide +kernel
theorem dX9_numberOf_14 : decode cX9_numberOf 14 = .ok (.aload_n 0, 1) := by decide +kernel
theorem dX9_numberOf_15 : decode cX9_numberOf 15 = .ok (.getfield 20, 3) := by decide +kernel
theorem dX9_numberOf_18 : decode cX9_numberOf 18 = .ok (.arraylength, 1) := by decide +kernel
theorem dX9_numberOf_19 : decode cX9_numberOf 19 = .ok (.if_icmp .gt 23, 3) := by decide +kernel
theorem dX9_numberOf_22 : decode cX9_numberOf 22 = .ok (.aload_n 0, 1) := by decide +kernel
theorem dX9_numberOf_23 : decode cX9_numberOf 23 = .ok (.getfield 20, 3) := by decide +kernel
theorem dX9_numberOf_26 : decode cX9_numberOf 26 = .ok (.iload_n 2, 1) := by decide +kernel
theorem dX9_numberOf_27 : decode cX9_numberOf 27 = .ok (.iconst 1, 1) := by decide +kernel
theorem dX9_numberOf_28 : decode cX9_numberOf 28 = .ok (.isub, 1) := by decide +kernel
theorem dX9_numberOf_29 : decode cX9_numberOf 29 = .ok (.iaload, 1) := by decide +kernel
theorem dX9_numberOf_30 : decode cX9_numberOf 30 = .ok (.iload_n 1, 1) := by decide +kernel
theorem dX9_numberOf_31 : decode cX9_numberOf 31 = .ok (.if_icmp .ne 5, 3) := by decide +kernel
theorem dX9_numberOf_34 : decode cX9_numberOf 34 = .ok (.iload_n 2, 1) := by decide +kernel
theorem dX9_numberOf_35 : decode cX9_numberOf 35 = .ok (.ireturn, 1) := by decide +kernel
theorem dX9_numberOf_36 : decode cX9_numberOf 36 = .ok (.iinc 2 1, 3) := by decide +kernel
theorem dX9_numberOf_39 : decode cX9_numberOf 39 = .ok (.goto (-37), 3) := by decide +kernel
theorem dX9_numberOf_42 : decode cX9_numberOf 42 = .ok (.iconst (-1), 1) := by decide +kernel
theorem dX9_numberOf_43 : decode cX9_numberOf 43 = .ok (.ireturn, 1) := by decide +kernel
theorem dX9_markedId_0 : decode cX9_markedId 0 = .ok (.iload_n 1, 1) := by decide +kernel
theorem dX9_markedId_1 : decode cX9_markedId 1 = .ok (.ifCond .lt 21, 3) := by decide +kernel
theorem dX9_markedId_4 : decode cX9_markedId 4 = .ok (.iload_n 1, 1) := by decide +kernel
theorem dX9_markedId_5 : decode cX9_markedId 5 = .ok (.aload_n 0, 1) := by decide +kernel
theorem dX9_markedId_6 : decode cX9_markedId 6 = .ok (.getfield 24, 3) := by decide +kernel
theorem dX9_markedId_9 : decode cX9_markedId 9 = .ok (.arraylength, 1) := by decide +kernel
theorem dX9_markedId_10 : decode cX9_markedId 10 = .ok (.if_icmp .ge 12, 3) := by decide +kernel
theorem dX9_markedId_13 : decode cX9_markedId 13 = .ok (.aload_n 0, 1) := by decide +kernel
theorem dX9_markedId_14 : decode cX9_markedId 14 = .ok (.getfield 24, 3) := by decide +kernel
theorem dX9_markedId_17 : decode cX9_markedId 17 = .ok (.iload_n 1, 1) := by decide +kernel
theorem dX9_markedId_18 : decode cX9_markedId 18 = .ok (.iaload, 1) := by decide +kernel
theorem dX9_markedId_19 : decode cX9_markedId 19 = .ok (.goto 4, 3) := by decide +kernel
theorem dX9_markedId_22 : decode cX9_markedId 22 = .ok (.iconst (-1), 1) := by decide +kernel
theorem dX9_markedId_23 : decode cX9_markedId 23 = .ok (.ireturn, 1) := by decide +kernel
theorem dX9_markedLine_0 : decode cX9_markedLine 0 = .ok (.aload_n 0, 1) := by decide +kernel
theorem dX9_markedLine_1 : decode cX9_markedLine 1 = .ok (.iload_n 1, 1) := by decide +kernel
theorem dX9_markedLine_2 : decode cX9_markedLine 2 = .ok (.invokevirtual 44, 3) := by decide +kernel
theorem dX9_markedLine_5 : decode cX9_markedLine 5 = .ok (.istore_n 2, 1) := by decide +kernel
theorem dX9_markedLine_6 : decode cX9_markedLine 6 = .ok (.iload_n 2, 1) := by decide +kernel
theorem dX9_markedLine_7 : decode cX9_markedLine 7 = .ok (.iconst (-1), 1) := by decide +kernel
theorem dX9_markedLine_8 : decode cX9_markedLine 8 = .ok (.if_icmp .ne 7, 3) := by decide +kernel
theorem dX9_markedLine_11 : decode cX9_markedLine 11 = .ok (.iconst (-1), 1) := by decide +kernel
theorem dX9_markedLine_12 : decode cX9_markedLine 12 = .ok (.goto 8, 3) := by decide +kernel
theorem dX9_markedLine_15 : decode cX9_markedLine 15 = .ok (.aload_n 0, 1) := by decide +kernel
theorem dX9_markedLine_16 : decode cX9_markedLine 16 = .ok (.iload_n 2, 1) := by decide +kernel
theorem dX9_markedLine_17 : decode cX9_markedLine 17 = .ok (.invokevirtual 48, 3) := by decide +kernel
theorem dX9_markedLine_20 : decode cX9_markedLine 20 = .ok (.ireturn, 1) := by decide +kernel
theorem dX9_setMark_0 : decode cX9_setMark 0 = .ok (.iload_n 1, 1) := by decide +kernel
theorem dX9_setMark_1 : decode cX9_setMark 1 = .ok (.ifCond .lt 19, 3) := by decide +kernel
theorem dX9_setMark_4 : decode cX9_setMark 4 = .ok (.iload_n 1, 1) := by decide +kernel
theorem dX9_setMark_5 : decode cX9_setMark 5 = .ok (.aload_n 0, 1) := by decide +kernel
theorem dX9_setMark_6 : decode cX9_setMark 6 = .ok (.getfield 24, 3) := by decide +kernel
theorem dX9_setMark_9 : decode cX9_setMark 9 = .ok (.arraylength, 1) := by decide +kernel
theorem dX9_setMark_10 : decode cX9_setMark 10 = .ok (.if_icmp .ge 10, 3) := by decide +kernel
theorem dX9_setMark_13 : decode cX9_setMark 13 = .ok (.aload_n 0, 1) := by decide +kernel
theorem dX9_setMark_14 : decode cX9_setMark 14 = .ok (.getfield 24, 3) := by decide +kernel
theorem dX9_setMark_17 : decode cX9_setMark 17 = .ok (.iload_n 1, 1) := by decide +kernel
theorem dX9_setMark_18 : decode cX9_setMark 18 = .ok (.iload_n 2, 1) := by decide +kernel
theorem dX9_setMark_19 : decode cX9_setMark 19 = .ok (.iastore, 1) := by decide +kernel
theorem dX9_setMark_20 : decode cX9_setMark 20 = .ok (.return_, 1) := by decide +kernel
theorem dX9_dropMarks_0 : decode cX9_dropMarks 0 = .ok (.iconst 0, 1) := by decide +kernel
theorem dX9_dropMarks_1 : decode cX9_dropMarks 1 = .ok (.istore_n 2, 1) := by decide +kernel
theorem dX9_dropMarks_2 : decode cX9_dropMarks 2 = .ok (.iload_n 2, 1) := by decide +kernel
theorem dX9_dropMarks_3 : decode cX9_dropMarks 3 = .ok (.aload_n 0, 1) := by decide +kernel
theorem dX9_dropMarks_4 : decode cX9_dropMarks 4 = .ok (.getfield 24, 3) := by decide +kernel
theorem dX9_dropMarks_7 : decode cX9_dropMarks 7 = .ok (.arraylength, 1) := by decide +kernel
theorem dX9_dropMarks_8 : decode cX9_dropMarks 8 = .ok (.if_icmp .ge 26, 3) := by decide +kernel
theorem dX9_dropMarks_11 : decode cX9_dropMarks 11 = .ok (.aload_n 0, 1) := by decide +kernel
theorem dX9_dropMarks_12 : decode cX9_dropMarks 12 = .ok (.getfield 24, 3) := by decide +kernel
theorem dX9_dropMarks_15 : decode cX9_dropMarks 15 = .ok (.iload_n 2, 1) := by decide +kernel
theorem dX9_dropMarks_16 : decode cX9_dropMarks 16 = .ok (.iaload, 1) := by decide +kernel
theorem dX9_dropMarks_17 : decode cX9_dropMarks 17 = .ok (.iload_n 1, 1) := by decide +kernel
theorem dX9_dropMarks_18 : decode cX9_dropMarks 18 = .ok (.if_icmp .ne 10, 3) := by decide +kernel
theorem dX9_dropMarks_21 : decode cX9_dropMarks 21 = .ok (.aload_n 0, 1) := by decide +kernel
theorem dX9_dropMarks_22 : decode cX9_dropMarks 22 = .ok (.getfield 24, 3) := by decide +kernel
theorem dX9_dropMarks_25 : decode cX9_dropMarks 25 = .ok (.iload_n 2, 1) := by decide +kernel
theorem dX9_dropMarks_26 : decode cX9_dropMarks 26 = .ok (.iconst (-1), 1) := by decide +kernel
theorem dX9_dropMarks_27 : decode cX9_dropMarks 27 = .ok (.iastore, 1) := by decide +kernel
theorem dX9_dropMarks_28 : decode cX9_dropMarks 28 = .ok (.iinc 2 1, 3) := by decide +kernel
theorem dX9_dropMarks_31 : decode cX9_dropMarks 31 = .ok (.goto (-29), 3) := by decide +kernel
theorem dX9_dropMarks_34 : decode cX9_dropMarks 34 = .ok (.return_, 1) := by decide +kernel
theorem dX9_open_0 : decode cX9_open 0 = .ok (.aload_n 0, 1) := by decide +kernel
theorem dX9_open_1 : decode cX9_open 1 = .ok (.getfield 14, 3) := by decide +kernel
theorem dX9_open_4 : decode cX9_open 4 = .ok (.getfield 41, 3) := by decide +kernel
theorem dX9_open_7 : decode cX9_open 7 = .ok (.iload_n 1, 1) := by decide +kernel
theorem dX9_open_8 : decode cX9_open 8 = .ok (.isub, 1) := by decide +kernel
theorem dX9_open_9 : decode cX9_open 9 = .ok (.iconst 1, 1) := by decide +kernel
theorem dX9_open_10 : decode cX9_open 10 = .ok (.iadd, 1) := by decide +kernel
theorem dX9_open_11 : decode cX9_open 11 = .ok (.istore_n 3, 1) := by decide +kernel
theorem dX9_open_12 : decode cX9_open 12 = .ok (.aload_n 0, 1) := by decide +kernel
theorem dX9_open_13 : decode cX9_open 13 = .ok (.getfield 14, 3) := by decide +kernel
theorem dX9_open_16 : decode cX9_open 16 = .ok (.iload_n 1, 1) := by decide +kernel
theorem dX9_open_17 : decode cX9_open 17 = .ok (.iload_n 2, 1) := by decide +kernel
theorem dX9_open_18 : decode cX9_open 18 = .ok (.invokevirtual 51, 3) := by decide +kernel
theorem dX9_open_21 : decode cX9_open 21 = .ok (.ifCond .eq 22, 3) := by decide +kernel
theorem dX9_open_24 : decode cX9_open 24 = .ok (.iload_n 3, 1) := by decide +kernel
theorem dX9_open_25 : decode cX9_open 25 = .ok (.ifCond .lt 18, 3) := by decide +kernel
theorem dX9_open_28 : decode cX9_open 28 = .ok (.iload_n 1, 1) := by decide +kernel
theorem dX9_open_29 : decode cX9_open 29 = .ok (.iconst 1, 1) := by decide +kernel
theorem dX9_open_30 : decode cX9_open 30 = .ok (.isub, 1) := by decide +kernel
theorem dX9_open_31 : decode cX9_open 31 = .ok (.iload_n 2, 1) := by decide +kernel
theorem dX9_open_32 : decode cX9_open 32 = .ok (.iadd, 1) := by decide +kernel
theorem dX9_open_33 : decode cX9_open 33 = .ok (.iload_n 3, 1) := by decide +kernel
theorem dX9_open_34 : decode cX9_open 34 = .ok (.iadd, 1) := by decide +kernel
theorem dX9_open_35 : decode cX9_open 35 = .ok (.aload_n 0, 1) := by decide +kernel
theorem dX9_open_36 : decode cX9_open 36 = .ok (.getfield 20, 3) := by decide +kernel
theorem dX9_open_39 : decode cX9_open 39 = .ok (.arraylength, 1) := by decide +kernel
theorem dX9_open_40 : decode cX9_open 40 = .ok (.if_icmp .le 5, 3) := by decide +kernel
theorem dX9_open_43 : decode cX9_open 43 = .ok (.iconst 0, 1) := by decide +kernel
theorem dX9_open_44 : decode cX9_open 44 = .ok (.ireturn, 1) := by decide +kernel
theorem dX9_open_45 : decode cX9_open 45 = .ok (.aload_n 0, 1) := by decide +kernel
theorem dX9_open_46 : decode cX9_open 46 = .ok (.getfield 20, 3) := by decide +kernel
theorem dX9_open_49 : decode cX9_open 49 = .ok (.iload_n 1, 1) := by decide +kernel
theorem dX9_open_50 : decode cX9_open 50 = .ok (.iconst 1, 1) := by decide +kernel
theorem dX9_open_51 : decode cX9_open 51 = .ok (.isub, 1) := by decide +kernel
theorem dX9_open_52 : decode cX9_open 52 = .ok (.aload_n 0, 1) := by decide +kernel
theorem dX9_open_53 : decode cX9_open 53 = .ok (.getfield 20, 3) := by decide +kernel
theorem dX9_open_56 : decode cX9_open 56 = .ok (.iload_n 1, 1) := by decide +kernel
theorem dX9_open_57 : decode cX9_open 57 = .ok (.iconst 1, 1) := by decide +kernel
theorem dX9_open_58 : decode cX9_open 58 = .ok (.isub, 1) := by decide +kernel
theorem dX9_open_59 : decode cX9_open 59 = .ok (.iload_n 2, 1) := by decide +kernel
theorem dX9_open_60 : decode cX9_open 60 = .ok (.iadd, 1) := by decide +kernel
theorem dX9_open_61 : decode cX9_open 61 = .ok (.iload_n 3, 1) := by decide +kernel
theorem dX9_open_62 : decode cX9_open 62 = .ok (.invokestatic 31, 3) := by decide +kernel
theorem dX9_open_65 : decode cX9_open 65 = .ok (.iload_n 1, 1) := by decide +kernel
theorem dX9_open_66 : decode cX9_open 66 = .ok (.istore 4, 2) := by decide +kernel
theorem dX9_open_68 : decode cX9_open 68 = .ok (.iload 4, 2) := by decide +kernel
theorem dX9_open_70 : decode cX9_open 70 = .ok (.iload_n 1, 1) := by decide +kernel
theorem dX9_open_71 : decode cX9_open 71 = .ok (.iload_n 2, 1) := by decide +kernel
theorem dX9_open_72 : decode cX9_open 72 = .ok (.iadd, 1) := by decide +kernel
theorem dX9_open_73 : decode cX9_open 73 = .ok (.if_icmp .ge 32, 3) := by decide +kernel
theorem dX9_open_76 : decode cX9_open 76 = .ok (.aload_n 0, 1) := by decide +kernel
theorem dX9_open_77 : decode cX9_open 77 = .ok (.getfield 20, 3) := by decide +kernel
theorem dX9_open_80 : decode cX9_open 80 = .ok (.iload 4, 2) := by decide +kernel
theorem dX9_open_82 : decode cX9_open 82 = .ok (.iconst 1, 1) := by decide +kernel
theorem dX9_open_83 : decode cX9_open 83 = .ok (.isub, 1) := by decide +kernel
theorem dX9_open_84 : decode cX9_open 84 = .ok (.aload_n 0, 1) := by decide +kernel
theorem dX9_open_85 : decode cX9_open 85 = .ok (.getfield 55, 3) := by decide +kernel
theorem dX9_open_88 : decode cX9_open 88 = .ok (.iastore, 1) := by decide +kernel
theorem dX9_open_89 : decode cX9_open 89 = .ok (.aload_n 0, 1) := by decide +kernel
theorem dX9_open_90 : decode cX9_open 90 = .ok (.dup, 1) := by decide +kernel
theorem dX9_open_91 : decode cX9_open 91 = .ok (.getfield 55, 3) := by decide +kernel
theorem dX9_open_94 : decode cX9_open 94 = .ok (.iconst 1, 1) := by decide +kernel
theorem dX9_open_95 : decode cX9_open 95 = .ok (.iadd, 1) := by decide +kernel
theorem dX9_open_96 : decode cX9_open 96 = .ok (.putfield 55, 3) := by decide +kernel
theorem dX9_open_99 : decode cX9_open 99 = .ok (.iinc 4 1, 3) := by decide +kernel
theorem dX9_open_102 : decode cX9_open 102 = .ok (.goto (-34), 3) := by decide +kernel
theorem dX9_open_105 : decode cX9_open 105 = .ok (.iconst 1, 1) := by decide +kernel
theorem dX9_open_106 : decode cX9_open 106 = .ok (.ireturn, 1) := by decide +kernel
theorem dX9_cut_0 : decode cX9_cut 0 = .ok (.aload_n 0, 1) := by decide +kernel
theorem dX9_cut_1 : decode cX9_cut 1 = .ok (.getfield 14, 3) := by decide +kernel
theorem dX9_cut_4 : decode cX9_cut 4 = .ok (.getfield 41, 3) := by decide +kernel
theorem dX9_cut_7 : decode cX9_cut 7 = .ok (.iload_n 1, 1) := by decide +kernel
theorem dX9_cut_8 : decode cX9_cut 8 = .ok (.isub, 1) := by decide +kernel
theorem dX9_cut_9 : decode cX9_cut 9 = .ok (.iconst 1, 1) := by decide +kernel
theorem dX9_cut_10 : decode cX9_cut 10 = .ok (.iadd, 1) := by decide +kernel
theorem dX9_cut_11 : decode cX9_cut 11 = .ok (.iload_n 2, 1) := by decide +kernel
theorem dX9_cut_12 : decode cX9_cut 12 = .ok (.isub, 1) := by decide +kernel
theorem dX9_cut_13 : decode cX9_cut 13 = .ok (.istore_n 3, 1) := by decide +kernel
theorem dX9_cut_14 : decode cX9_cut 14 = .ok (.iload_n 1, 1) := by decide +kernel
theorem dX9_cut_15 : decode cX9_cut 15 = .ok (.iconst 1, 1) := by decide +kernel
theorem dX9_cut_16 : decode cX9_cut 16 = .ok (.if_icmp .lt 26, 3) := by decide +kernel
theorem dX9_cut_19 : decode cX9_cut 19 = .ok (.iload_n 2, 1) := by decide +kernel
theorem dX9_cut_20 : decode cX9_cut 20 = .ok (.ifCond .lt 22, 3) := by decide +kernel
theorem dX9_cut_23 : decode cX9_cut 23 = .ok (.iload_n 3, 1) := by decide +kernel
theorem dX9_cut_24 : decode cX9_cut 24 = .ok (.ifCond .lt 18, 3) := by decide +kernel
theorem dX9_cut_27 : decode cX9_cut 27 = .ok (.aload_n 0, 1) := by decide +kernel
theorem dX9_cut_28 : decode cX9_cut 28 = .ok (.getfield 14, 3) := by decide +kernel
theorem dX9_cut_31 : decode cX9_cut 31 = .ok (.getfield 41, 3) := by decide +kernel
theorem dX9_cut_34 : decode cX9_cut 34 = .ok (.aload_n 0, 1) := by decide +kernel
theorem dX9_cut_35 : decode cX9_cut 35 = .ok (.getfield 20, 3) := by decide +kernel
theorem dX9_cut_38 : decode cX9_cut 38 = .ok (.arraylength, 1) := by decide +kernel
theorem dX9_cut_39 : decode cX9_cut 39 = .ok (.if_icmp .le 4, 3) := by decide +kernel
theorem dX9_cut_42 : decode cX9_cut 42 = .ok (.return_, 1) := by decide +kernel
theorem dX9_cut_43 : decode cX9_cut 43 = .ok (.iload_n 1, 1) := by decide +kernel
theorem dX9_cut_44 : decode cX9_cut 44 = .ok (.istore 4, 2) := by decide +kernel
theorem dX9_cut_46 : decode cX9_cut 46 = .ok (.iload 4, 2) := by decide +kernel
theorem dX9_cut_48 : decode cX9_cut 48 = .ok (.iload_n 1, 1) := by decide +kernel
theorem dX9_cut_49 : decode cX9_cut 49 = .ok (.iload_n 2, 1) := by decide +kernel
theorem dX9_cut_50 : decode cX9_cut 50 = .ok (.iadd, 1) := by decide +kernel
theorem dX9_cut_51 : decode cX9_cut 51 = .ok (.if_icmp .ge 22, 3) := by decide +kernel
theorem dX9_cut_54 : decode cX9_cut 54 = .ok (.aload_n 0, 1) := by decide +kernel
theorem dX9_cut_55 : decode cX9_cut 55 = .ok (.aload_n 0, 1) := by decide +kernel
theorem dX9_cut_56 : decode cX9_cut 56 = .ok (.getfield 20, 3) := by decide +kernel
theorem dX9_cut_59 : decode cX9_cut 59 = .ok (.iload 4, 2) := by decide +kernel
theorem dX9_cut_61 : decode cX9_cut 61 = .ok (.iconst 1, 1) := by decide +kernel
theorem dX9_cut_62 : decode cX9_cut 62 = .ok (.isub, 1) := by decide +kernel
theorem dX9_cut_63 : decode cX9_cut 63 = .ok (.iaload, 1) := by decide +kernel
theorem dX9_cut_64 : decode cX9_cut 64 = .ok (.invokevirtual 58, 3) := by decide +kernel
theorem dX9_cut_67 : decode cX9_cut 67 = .ok (.iinc 4 1, 3) := by decide +kernel
theorem dX9_cut_70 : decode cX9_cut 70 = .ok (.goto (-24), 3) := by decide +kernel
theorem dX9_cut_73 : decode cX9_cut 73 = .ok (.aload_n 0, 1) := by decide +kernel
theorem dX9_cut_74 : decode cX9_cut 74 = .ok (.getfield 20, 3) := by decide +kernel
theorem dX9_cut_77 : decode cX9_cut 77 = .ok (.iload_n 1, 1) := by decide +kernel
theorem dX9_cut_78 : decode cX9_cut 78 = .ok (.iconst 1, 1) := by decide +kernel
theorem dX9_cut_79 : decode cX9_cut 79 = .ok (.isub, 1) := by decide +kernel
theorem dX9_cut_80 : decode cX9_cut 80 = .ok (.iload_n 2, 1) := by decide +kernel
theorem dX9_cut_81 : decode cX9_cut 81 = .ok (.iadd, 1) := by decide +kernel
theorem dX9_cut_82 : decode cX9_cut 82 = .ok (.aload_n 0, 1) := by decide +kernel
theorem dX9_cut_83 : decode cX9_cut 83 = .ok (.getfield 20, 3) := by decide +kernel
theorem dX9_cut_86 : decode cX9_cut 86 = .ok (.iload_n 1, 1) := by decide +kernel
theorem dX9_cut_87 : decode cX9_cut 87 = .ok (.iconst 1, 1) := by decide +kernel
theorem dX9_cut_88 : decode cX9_cut 88 = .ok (.isub, 1) := by decide +kernel
theorem dX9_cut_89 : decode cX9_cut 89 = .ok (.iload_n 3, 1) := by decide +kernel
theorem dX9_cut_90 : decode cX9_cut 90 = .ok (.invokestatic 31, 3) := by decide +kernel
theorem dX9_cut_93 : decode cX9_cut 93 = .ok (.aload_n 0, 1) := by decide +kernel
theorem dX9_cut_94 : decode cX9_cut 94 = .ok (.getfield 14, 3) := by decide +kernel
theorem dX9_cut_97 : decode cX9_cut 97 = .ok (.iload_n 1, 1) := by decide +kernel
theorem dX9_cut_98 : decode cX9_cut 98 = .ok (.iload_n 2, 1) := by decide +kernel
theorem dX9_cut_99 : decode cX9_cut 99 = .ok (.invokevirtual 61, 3) := by decide +kernel
theorem dX9_cut_102 : decode cX9_cut 102 = .ok (.return_, 1) := by decide +kernel
theorem dX9_append_0 : decode cX9_append 0 = .ok (.aload_n 0, 1) := by decide +kernel
theorem dX9_append_1 : decode cX9_append 1 = .ok (.getfield 14, 3) := by decide +kernel
theorem dX9_append_4 : decode cX9_append 4 = .ok (.getfield 41, 3) := by decide +kernel
theorem dX9_append_7 : decode cX9_append 7 = .ok (.aload_n 0, 1) := by decide +kernel
theorem dX9_append_8 : decode cX9_append 8 = .ok (.getfield 20, 3) := by decide +kernel
theorem dX9_append_11 : decode cX9_append 11 = .ok (.arraylength, 1) := by decide +kernel
theorem dX9_append_12 : decode cX9_append 12 = .ok (.if_icmp .ge 15, 3) := by decide +kernel
theorem dX9_append_15 : decode cX9_append 15 = .ok (.aload_n 0, 1) := by decide +kernel
theorem dX9_append_16 : decode cX9_append 16 = .ok (.getfield 14, 3) := by decide +kernel
theorem dX9_append_19 : decode cX9_append 19 = .ok (.aload_n 1, 1) := by decide +kernel
theorem dX9_append_20 : decode cX9_append 20 = .ok (.iload_n 2, 1) := by decide +kernel
theorem dX9_append_21 : decode cX9_append 21 = .ok (.invokevirtual 65, 3) := by decide +kernel
theorem dX9_append_24 : decode cX9_append 24 = .ok (.ifCond .ne 5, 3) := by decide +kernel
theorem dX9_append_27 : decode cX9_append 27 = .ok (.iconst 0, 1) := by decide +kernel
theorem dX9_append_28 : decode cX9_append 28 = .ok (.ireturn, 1) := by decide +kernel
theorem dX9_append_29 : decode cX9_append 29 = .ok (.aload_n 0, 1) := by decide +kernel
theorem dX9_append_30 : decode cX9_append 30 = .ok (.getfield 14, 3) := by decide +kernel
theorem dX9_append_33 : decode cX9_append 33 = .ok (.getfield 41, 3) := by decide +kernel
theorem dX9_append_36 : decode cX9_append 36 = .ok (.iconst 1, 1) := by decide +kernel
theorem dX9_append_37 : decode cX9_append 37 = .ok (.if_icmp .lt 33, 3) := by decide +kernel
theorem dX9_append_40 : decode cX9_append 40 = .ok (.aload_n 0, 1) := by decide +kernel
theorem dX9_append_41 : decode cX9_append 41 = .ok (.getfield 14, 3) := by decide +kernel
theorem dX9_append_44 : decode cX9_append 44 = .ok (.getfield 41, 3) := by decide +kernel
theorem dX9_append_47 : decode cX9_append 47 = .ok (.aload_n 0, 1) := by decide +kernel
theorem dX9_append_48 : decode cX9_append 48 = .ok (.getfield 20, 3) := by decide +kernel
theorem dX9_append_51 : decode cX9_append 51 = .ok (.arraylength, 1) := by decide +kernel
theorem dX9_append_52 : decode cX9_append 52 = .ok (.if_icmp .gt 18, 3) := by decide +kernel
theorem dX9_append_55 : decode cX9_append 55 = .ok (.aload_n 0, 1) := by decide +kernel
theorem dX9_append_56 : decode cX9_append 56 = .ok (.getfield 20, 3) := by decide +kernel
theorem dX9_append_59 : decode cX9_append 59 = .ok (.aload_n 0, 1) := by decide +kernel
theorem dX9_append_60 : decode cX9_append 60 = .ok (.getfield 14, 3) := by decide +kernel
theorem dX9_append_63 : decode cX9_append 63 = .ok (.getfield 41, 3) := by decide +kernel
theorem dX9_append_66 : decode cX9_append 66 = .ok (.iconst 1, 1) := by decide +kernel
theorem dX9_append_67 : decode cX9_append 67 = .ok (.isub, 1) := by decide +kernel
theorem dX9_append_68 : decode cX9_append 68 = .ok (.iload_n 3, 1) := by decide +kernel
theorem dX9_append_69 : decode cX9_append 69 = .ok (.iastore, 1) := by decide +kernel
theorem dX9_append_70 : decode cX9_append 70 = .ok (.iconst 1, 1) := by decide +kernel
theorem dX9_append_71 : decode cX9_append 71 = .ok (.ireturn, 1) := by decide +kernel
theorem dX9_arrange_0 : decode cX9_arrange 0 = .ok (.aload_n 2, 1) := by decide +kernel
theorem dX9_arrange_1 : decode cX9_arrange 1 = .ok (.aload_n 0, 1) := by decide +kernel
theorem dX9_arrange_2 : decode cX9_arrange 2 = .ok (.invokevirtual 69, 3) := by decide +kernel
theorem dX9_arrange_5 : decode cX9_arrange 5 = .ok (.iconst 1, 1) := by decide +kernel
theorem dX9_arrange_6 : decode cX9_arrange 6 = .ok (.istore_n 3, 1) := by decide +kernel
theorem dX9_arrange_7 : decode cX9_arrange 7 = .ok (.iload_n 3, 1) := by decide +kernel
theorem dX9_arrange_8 : decode cX9_arrange 8 = .ok (.aload_n 0, 1) := by decide +kernel
theorem dX9_arrange_9 : decode cX9_arrange 9 = .ok (.getfield 14, 3) := by decide +kernel
theorem dX9_arrange_12 : decode cX9_arrange 12 = .ok (.getfield 41, 3) := by decide +kernel
theorem dX9_arrange_15 : decode cX9_arrange 15 = .ok (.if_icmp .gt 59, 3) := by decide +kernel
theorem dX9_arrange_18 : decode cX9_arrange 18 = .ok (.iload_n 3, 1) := by decide +kernel
theorem dX9_arrange_19 : decode cX9_arrange 19 = .ok (.aload_n 1, 1) := by decide +kernel
theorem dX9_arrange_20 : decode cX9_arrange 20 = .ok (.arraylength, 1) := by decide +kernel
theorem dX9_arrange_21 : decode cX9_arrange 21 = .ok (.if_icmp .gt 53, 3) := by decide +kernel
theorem dX9_arrange_24 : decode cX9_arrange 24 = .ok (.iload_n 3, 1) := by decide +kernel
theorem dX9_arrange_25 : decode cX9_arrange 25 = .ok (.aload_n 0, 1) := by decide +kernel
theorem dX9_arrange_26 : decode cX9_arrange 26 = .ok (.getfield 20, 3) := by decide +kernel
theorem dX9_arrange_29 : decode cX9_arrange 29 = .ok (.arraylength, 1) := by decide +kernel
theorem dX9_arrange_30 : decode cX9_arrange 30 = .ok (.if_icmp .gt 44, 3) := by decide +kernel
theorem dX9_arrange_33 : decode cX9_arrange 33 = .ok (.aload_n 1, 1) := by decide +kernel
theorem dX9_arrange_34 : decode cX9_arrange 34 = .ok (.iload_n 3, 1) := by decide +kernel
theorem dX9_arrange_35 : decode cX9_arrange 35 = .ok (.iconst 1, 1) := by decide +kernel
theorem dX9_arrange_36 : decode cX9_arrange 36 = .ok (.isub, 1) := by decide +kernel
theorem dX9_arrange_37 : decode cX9_arrange 37 = .ok (.iaload, 1) := by decide +kernel
theorem dX9_arrange_38 : decode cX9_arrange 38 = .ok (.istore 4, 2) := by decide +kernel
theorem dX9_arrange_40 : decode cX9_arrange 40 = .ok (.aload_n 0, 1) := by decide +kernel
theorem dX9_arrange_41 : decode cX9_arrange 41 = .ok (.getfield 14, 3) := by decide +kernel
theorem dX9_arrange_44 : decode cX9_arrange 44 = .ok (.iload_n 3, 1) := by decide +kernel
theorem dX9_arrange_45 : decode cX9_arrange 45 = .ok (.aload_n 2, 1) := by decide +kernel
theorem dX9_arrange_46 : decode cX9_arrange 46 = .ok (.getfield 14, 3) := by decide +kernel
theorem dX9_arrange_49 : decode cX9_arrange 49 = .ok (.iload 4, 2) := by decide +kernel
theorem dX9_arrange_51 : decode cX9_arrange 51 = .ok (.invokevirtual 72, 3) := by decide +kernel
theorem dX9_arrange_54 : decode cX9_arrange 54 = .ok (.aload_n 0, 1) := by decide +kernel
theorem dX9_arrange_55 : decode cX9_arrange 55 = .ok (.getfield 20, 3) := by decide +kernel
theorem dX9_arrange_58 : decode cX9_arrange 58 = .ok (.iload_n 3, 1) := by decide +kernel
theorem dX9_arrange_59 : decode cX9_arrange 59 = .ok (.iconst 1, 1) := by decide +kernel
theorem dX9_arrange_60 : decode cX9_arrange 60 = .ok (.isub, 1) := by decide +kernel
theorem dX9_arrange_61 : decode cX9_arrange 61 = .ok (.aload_n 2, 1) := by decide +kernel
theorem dX9_arrange_62 : decode cX9_arrange 62 = .ok (.iload 4, 2) := by decide +kernel
theorem dX9_arrange_64 : decode cX9_arrange 64 = .ok (.invokevirtual 76, 3) := by decide +kernel
theorem dX9_arrange_67 : decode cX9_arrange 67 = .ok (.iastore, 1) := by decide +kernel
theorem dX9_arrange_68 : decode cX9_arrange 68 = .ok (.iinc 3 1, 3) := by decide +kernel
theorem dX9_arrange_71 : decode cX9_arrange 71 = .ok (.goto (-64), 3) := by decide +kernel
theorem dX9_arrange_74 : decode cX9_arrange 74 = .ok (.return_, 1) := by decide +kernel
theorem dX9_addSample_0 : decode cX9_addSample 0 = .ok (.bipush 9, 2) := by decide +kernel
theorem dX9_addSample_2 : decode cX9_addSample 2 = .ok (.newarray .byte, 2) := by decide +kernel
theorem dX9_addSample_4 : decode cX9_addSample 4 = .ok (.astore_n 3, 1) := by decide +kernel
theorem dX9_addSample_5 : decode cX9_addSample 5 = .ok (.iload_n 1, 1) := by decide +kernel
theorem dX9_addSample_6 : decode cX9_addSample 6 = .ok (.istore 4, 2) := by decide +kernel
theorem dX9_addSample_8 : decode cX9_addSample 8 = .ok (.iconst 0, 1) := by decide +kernel
theorem dX9_addSample_9 : decode cX9_addSample 9 = .ok (.istore 5, 2) := by decide +kernel
theorem dX9_addSample_11 : decode cX9_addSample 11 = .ok (.iload 5, 2) := by decide +kernel
theorem dX9_addSample_13 : decode cX9_addSample 13 = .ok (.iload_n 2, 1) := by decide +kernel
theorem dX9_addSample_14 : decode cX9_addSample 14 = .ok (.if_icmp .ge 124, 3) := by decide +kernel
theorem dX9_addSample_17 : decode cX9_addSample 17 = .ok (.aload_n 0, 1) := by decide +kernel
theorem dX9_addSample_18 : decode cX9_addSample 18 = .ok (.iload 4, 2) := by decide +kernel
theorem dX9_addSample_20 : decode cX9_addSample 20 = .ok (.invokevirtual 79, 3) := by decide +kernel
theorem dX9_addSample_23 : decode cX9_addSample 23 = .ok (.istore 4, 2) := by decide +kernel
theorem dX9_addSample_25 : decode cX9_addSample 25 = .ok (.iload 4, 2) := by decide +kernel
theorem dX9_addSample_27 : decode cX9_addSample 27 = .ok (.bipush 16, 2) := by decide +kernel
theorem dX9_addSample_29 : decode cX9_addSample 29 = .ok (.idiv, 1) := by decide +kernel
theorem dX9_addSample_30 : decode cX9_addSample 30 = .ok (.bipush 9, 2) := by decide +kernel
theorem dX9_addSample_32 : decode cX9_addSample 32 = .ok (.irem, 1) := by decide +kernel
theorem dX9_addSample_33 : decode cX9_addSample 33 = .ok (.istore 6, 2) := by decide +kernel
theorem dX9_addSample_35 : decode cX9_addSample 35 = .ok (.iconst 0, 1) := by decide +kernel
theorem dX9_addSample_36 : decode cX9_addSample 36 = .ok (.istore 7, 2) := by decide +kernel
theorem dX9_addSample_38 : decode cX9_addSample 38 = .ok (.iload 7, 2) := by decide +kernel
theorem dX9_addSample_40 : decode cX9_addSample 40 = .ok (.iload 6, 2) := by decide +kernel
theorem dX9_addSample_42 : decode cX9_addSample 42 = .ok (.if_icmp .ge 55, 3) := by decide +kernel
theorem dX9_addSample_45 : decode cX9_addSample 45 = .ok (.iload 7, 2) := by decide +kernel
theorem dX9_addSample_47 : decode cX9_addSample 47 = .ok (.aload_n 3, 1) := by decide +kernel
theorem dX9_addSample_48 : decode cX9_addSample 48 = .ok (.arraylength, 1) := by decide +kernel
theorem dX9_addSample_49 : decode cX9_addSample 49 = .ok (.if_icmp .ge 48, 3) := by decide +kernel
theorem dX9_addSample_52 : decode cX9_addSample 52 = .ok (.aload_n 0, 1) := by decide +kernel
theorem dX9_addSample_53 : decode cX9_addSample 53 = .ok (.iload 4, 2) := by decide +kernel
theorem dX9_addSample_55 : decode cX9_addSample 55 = .ok (.invokevirtual 79, 3) := by decide +kernel
theorem dX9_addSample_58 : decode cX9_addSample 58 = .ok (.istore 4, 2) := by decide +kernel
theorem dX9_addSample_60 : decode cX9_addSample 60 = .ok (.iload 4, 2) := by decide +kernel
theorem dX9_addSample_62 : decode cX9_addSample 62 = .ok (.bipush 16, 2) := by decide +kernel
theorem dX9_addSample_64 : decode cX9_addSample 64 = .ok (.idiv, 1) := by decide +kernel
theorem dX9_addSample_65 : decode cX9_addSample 65 = .ok (.bipush 6, 2) := by decide +kernel
theorem dX9_addSample_67 : decode cX9_addSample 67 = .ok (.irem, 1) := by decide +kernel
theorem dX9_addSample_68 : decode cX9_addSample 68 = .ok (.istore 8, 2) := by decide +kernel
theorem dX9_addSample_70 : decode cX9_addSample 70 = .ok (.aload_n 3, 1) := by decide +kernel
theorem dX9_addSample_71 : decode cX9_addSample 71 = .ok (.iload 7, 2) := by decide +kernel
theorem dX9_addSample_73 : decode cX9_addSample 73 = .ok (.iload 8, 2) := by decide +kernel
theorem dX9_addSample_75 : decode cX9_addSample 75 = .ok (.iconst 5, 1) := by decide +kernel
theorem dX9_addSample_76 : decode cX9_addSample 76 = .ok (.if_icmp .ne 8, 3) := by decide +kernel
theorem dX9_addSample_79 : decode cX9_addSample 79 = .ok (.bipush 32, 2) := by decide +kernel
theorem dX9_addSample_81 : decode cX9_addSample 81 = .ok (.goto 8, 3) := by decide +kernel
theorem dX9_addSample_84 : decode cX9_addSample 84 = .ok (.bipush 97, 2) := by decide +kernel
theorem dX9_addSample_86 : decode cX9_addSample 86 = .ok (.iload 8, 2) := by decide +kernel
theorem dX9_addSample_88 : decode cX9_addSample 88 = .ok (.iadd, 1) := by decide +kernel
theorem dX9_addSample_89 : decode cX9_addSample 89 = .ok (.i2b, 1) := by decide +kernel
theorem dX9_addSample_90 : decode cX9_addSample 90 = .ok (.bastore, 1) := by decide +kernel
theorem dX9_addSample_91 : decode cX9_addSample 91 = .ok (.iinc 7 1, 3) := by decide +kernel
theorem dX9_addSample_94 : decode cX9_addSample 94 = .ok (.goto (-56), 3) := by decide +kernel
theorem dX9_addSample_97 : decode cX9_addSample 97 = .ok (.aload_n 0, 1) := by decide +kernel
theorem dX9_addSample_98 : decode cX9_addSample 98 = .ok (.aload_n 0, 1) := by decide +kernel
theorem dX9_addSample_99 : decode cX9_addSample 99 = .ok (.getfield 14, 3) := by decide +kernel
theorem dX9_addSample_102 : decode cX9_addSample 102 = .ok (.getfield 41, 3) := by decide +kernel
theorem dX9_addSample_105 : decode cX9_addSample 105 = .ok (.iconst 1, 1) := by decide +kernel
theorem dX9_addSample_106 : decode cX9_addSample 106 = .ok (.iadd, 1) := by decide +kernel
theorem dX9_addSample_107 : decode cX9_addSample 107 = .ok (.iconst 1, 1) := by decide +kernel
theorem dX9_addSample_108 : decode cX9_addSample 108 = .ok (.invokevirtual 82, 3) := by decide +kernel
theorem dX9_addSample_111 : decode cX9_addSample 111 = .ok (.ifCond .eq 21, 3) := by decide +kernel
theorem dX9_addSample_114 : decode cX9_addSample 114 = .ok (.aload_n 0, 1) := by decide +kernel
theorem dX9_addSample_115 : decode cX9_addSample 115 = .ok (.getfield 14, 3) := by decide +kernel
theorem dX9_addSample_118 : decode cX9_addSample 118 = .ok (.aload_n 0, 1) := by decide +kernel
theorem dX9_addSample_119 : decode cX9_addSample 119 = .ok (.getfield 14, 3) := by decide +kernel
theorem dX9_addSample_122 : decode cX9_addSample 122 = .ok (.getfield 41, 3) := by decide +kernel
theorem dX9_addSample_125 : decode cX9_addSample 125 = .ok (.aload_n 3, 1) := by decide +kernel
theorem dX9_addSample_126 : decode cX9_addSample 126 = .ok (.iconst 0, 1) := by decide +kernel
theorem dX9_addSample_127 : decode cX9_addSample 127 = .ok (.iload 6, 2) := by decide +kernel
theorem dX9_addSample_129 : decode cX9_addSample 129 = .ok (.invokevirtual 83, 3) := by decide +kernel
theorem dX9_addSample_132 : decode cX9_addSample 132 = .ok (.iinc 5 1, 3) := by decide +kernel
theorem dX9_addSample_135 : decode cX9_addSample 135 = .ok (.goto (-124), 3) := by decide +kernel
theorem dX9_addSample_138 : decode cX9_addSample 138 = .ok (.aload_n 0, 1) := by decide +kernel
theorem dX9_addSample_139 : decode cX9_addSample 139 = .ok (.aload_n 0, 1) := by decide +kernel
theorem dX9_addSample_140 : decode cX9_addSample 140 = .ok (.getfield 14, 3) := by decide +kernel
theorem dX9_addSample_143 : decode cX9_addSample 143 = .ok (.getfield 41, 3) := by decide +kernel
theorem dX9_addSample_146 : decode cX9_addSample 146 = .ok (.putfield 37, 3) := by decide +kernel
theorem dX9_addSample_149 : decode cX9_addSample 149 = .ok (.return_, 1) := by decide +kernel
theorem dX9_nextLot_0 : decode cX9_nextLot 0 = .ok (.sipush 25173, 3) := by decide +kernel
theorem dX9_nextLot_3 : decode cX9_nextLot 3 = .ok (.iload_n 1, 1) := by decide +kernel
theorem dX9_nextLot_4 : decode cX9_nextLot 4 = .ok (.imul, 1) := by decide +kernel
theorem dX9_nextLot_5 : decode cX9_nextLot 5 = .ok (.sipush 13849, 3) := by decide +kernel
theorem dX9_nextLot_8 : decode cX9_nextLot 8 = .ok (.iadd, 1) := by decide +kernel
theorem dX9_nextLot_9 : decode cX9_nextLot 9 = .ok (.ldc 87, 2) := by decide +kernel
theorem dX9_nextLot_11 : decode cX9_nextLot 11 = .ok (.iand, 1) := by decide +kernel
theorem dX9_nextLot_12 : decode cX9_nextLot 12 = .ok (.ireturn, 1) := by decide +kernel
theorem dX9_isWell_0 : decode cX9_isWell 0 = .ok (.aload_n 0, 1) := by decide +kernel
theorem dX9_isWell_1 : decode cX9_isWell 1 = .ok (.getfield 14, 3) := by decide +kernel
theorem dX9_isWell_4 : decode cX9_isWell 4 = .ok (.getfield 41, 3) := by decide +kernel
theorem dX9_isWell_7 : decode cX9_isWell 7 = .ok (.ifCond .lt 36, 3) := by decide +kernel
theorem dX9_isWell_10 : decode cX9_isWell 10 = .ok (.aload_n 0, 1) := by decide +kernel
theorem dX9_isWell_11 : decode cX9_isWell 11 = .ok (.getfield 14, 3) := by decide +kernel
theorem dX9_isWell_14 : decode cX9_isWell 14 = .ok (.getfield 41, 3) := by decide +kernel
theorem dX9_isWell_17 : decode cX9_isWell 17 = .ok (.bipush 40, 2) := by decide +kernel
theorem dX9_isWell_19 : decode cX9_isWell 19 = .ok (.if_icmp .gt 24, 3) := by decide +kernel
theorem dX9_isWell_22 : decode cX9_isWell 22 = .ok (.aload_n 0, 1) := by decide +kernel
theorem dX9_isWell_23 : decode cX9_isWell 23 = .ok (.getfield 37, 3) := by decide +kernel
theorem dX9_isWell_26 : decode cX9_isWell 26 = .ok (.ifCond .lt 17, 3) := by decide +kernel
theorem dX9_isWell_29 : decode cX9_isWell 29 = .ok (.aload_n 0, 1) := by decide +kernel
theorem dX9_isWell_30 : decode cX9_isWell 30 = .ok (.getfield 37, 3) := by decide +kernel
theorem dX9_isWell_33 : decode cX9_isWell 33 = .ok (.aload_n 0, 1) := by decide +kernel
theorem dX9_isWell_34 : decode cX9_isWell 34 = .ok (.getfield 14, 3) := by decide +kernel
theorem dX9_isWell_37 : decode cX9_isWell 37 = .ok (.getfield 41, 3) := by decide +kernel
theorem dX9_isWell_40 : decode cX9_isWell 40 = .ok (.if_icmp .le 5, 3) := by decide +kernel
theorem dX9_isWell_43 : decode cX9_isWell 43 = .ok (.iconst 0, 1) := by decide +kernel
theorem dX9_isWell_44 : decode cX9_isWell 44 = .ok (.ireturn, 1) := by decide +kernel
theorem dX9_isWell_45 : decode cX9_isWell 45 = .ok (.aload_n 0, 1) := by decide +kernel
theorem dX9_isWell_46 : decode cX9_isWell 46 = .ok (.getfield 37, 3) := by decide +kernel
theorem dX9_isWell_49 : decode cX9_isWell 49 = .ok (.ifCond .ne 15, 3) := by decide +kernel
theorem dX9_isWell_52 : decode cX9_isWell 52 = .ok (.aload_n 0, 1) := by decide +kernel
theorem dX9_isWell_53 : decode cX9_isWell 53 = .ok (.getfield 14, 3) := by decide +kernel
theorem dX9_isWell_56 : decode cX9_isWell 56 = .ok (.getfield 41, 3) := by decide +kernel
theorem dX9_isWell_59 : decode cX9_isWell 59 = .ok (.ifCond .le 5, 3) := by decide +kernel
theorem dX9_isWell_62 : decode cX9_isWell 62 = .ok (.iconst 0, 1) := by decide +kernel
theorem dX9_isWell_63 : decode cX9_isWell 63 = .ok (.ireturn, 1) := by decide +kernel
theorem dX9_isWell_64 : decode cX9_isWell 64 = .ok (.iconst 1, 1) := by decide +kernel
theorem dX9_isWell_65 : decode cX9_isWell 65 = .ok (.istore_n 1, 1) := by decide +kernel
theorem dX9_isWell_66 : decode cX9_isWell 66 = .ok (.iload_n 1, 1) := by decide +kernel
theorem dX9_isWell_67 : decode cX9_isWell 67 = .ok (.aload_n 0, 1) := by decide +kernel
theorem dX9_isWell_68 : decode cX9_isWell 68 = .ok (.getfield 14, 3) := by decide +kernel
theorem dX9_isWell_71 : decode cX9_isWell 71 = .ok (.getfield 41, 3) := by decide +kernel
theorem dX9_isWell_74 : decode cX9_isWell 74 = .ok (.if_icmp .gt 57, 3) := by decide +kernel
theorem dX9_isWell_77 : decode cX9_isWell 77 = .ok (.aload_n 0, 1) := by decide +kernel
theorem dX9_isWell_78 : decode cX9_isWell 78 = .ok (.getfield 14, 3) := by decide +kernel
theorem dX9_isWell_81 : decode cX9_isWell 81 = .ok (.iload_n 1, 1) := by decide +kernel
theorem dX9_isWell_82 : decode cX9_isWell 82 = .ok (.invokevirtual 88, 3) := by decide +kernel
theorem dX9_isWell_85 : decode cX9_isWell 85 = .ok (.istore_n 2, 1) := by decide +kernel
theorem dX9_isWell_86 : decode cX9_isWell 86 = .ok (.aload_n 0, 1) := by decide +kernel
theorem dX9_isWell_87 : decode cX9_isWell 87 = .ok (.iload_n 1, 1) := by decide +kernel
theorem dX9_isWell_88 : decode cX9_isWell 88 = .ok (.invokevirtual 76, 3) := by decide +kernel
theorem dX9_isWell_91 : decode cX9_isWell 91 = .ok (.istore_n 3, 1) := by decide +kernel
theorem dX9_isWell_92 : decode cX9_isWell 92 = .ok (.iload_n 2, 1) := by decide +kernel
theorem dX9_isWell_93 : decode cX9_isWell 93 = .ok (.ifCond .lt 30, 3) := by decide +kernel
theorem dX9_isWell_96 : decode cX9_isWell 96 = .ok (.iload_n 2, 1) := by decide +kernel
theorem dX9_isWell_97 : decode cX9_isWell 97 = .ok (.bipush 30, 2) := by decide +kernel
theorem dX9_isWell_99 : decode cX9_isWell 99 = .ok (.if_icmp .gt 24, 3) := by decide +kernel
theorem dX9_isWell_102 : decode cX9_isWell 102 = .ok (.iload_n 3, 1) := by decide +kernel
theorem dX9_isWell_103 : decode cX9_isWell 103 = .ok (.ifCond .lt 20, 3) := by decide +kernel
theorem dX9_isWell_106 : decode cX9_isWell 106 = .ok (.iload_n 3, 1) := by decide +kernel
theorem dX9_isWell_107 : decode cX9_isWell 107 = .ok (.aload_n 0, 1) := by decide +kernel
theorem dX9_isWell_108 : decode cX9_isWell 108 = .ok (.getfield 55, 3) := by decide +kernel
theorem dX9_isWell_111 : decode cX9_isWell 111 = .ok (.if_icmp .ge 12, 3) := by decide +kernel
theorem dX9_isWell_114 : decode cX9_isWell 114 = .ok (.aload_n 0, 1) := by decide +kernel
theorem dX9_isWell_115 : decode cX9_isWell 115 = .ok (.iload_n 3, 1) := by decide +kernel
theorem dX9_isWell_116 : decode cX9_isWell 116 = .ok (.invokevirtual 48, 3) := by decide +kernel
theorem dX9_isWell_119 : decode cX9_isWell 119 = .ok (.iload_n 1, 1) := by decide +kernel
theorem dX9_isWell_120 : decode cX9_isWell 120 = .ok (.if_icmp .eq 5, 3) := by decide +kernel
theorem dX9_isWell_123 : decode cX9_isWell 123 = .ok (.iconst 0, 1) := by decide +kernel
theorem dX9_isWell_124 : decode cX9_isWell 124 = .ok (.ireturn, 1) := by decide +kernel
theorem dX9_isWell_125 : decode cX9_isWell 125 = .ok (.iinc 1 1, 3) := by decide +kernel
theorem dX9_isWell_128 : decode cX9_isWell 128 = .ok (.goto (-62), 3) := by decide +kernel
theorem dX9_isWell_131 : decode cX9_isWell 131 = .ok (.iconst 0, 1) := by decide +kernel
theorem dX9_isWell_132 : decode cX9_isWell 132 = .ok (.istore_n 1, 1) := by decide +kernel
theorem dX9_isWell_133 : decode cX9_isWell 133 = .ok (.iload_n 1, 1) := by decide +kernel
theorem dX9_isWell_134 : decode cX9_isWell 134 = .ok (.iconst 5, 1) := by decide +kernel
theorem dX9_isWell_135 : decode cX9_isWell 135 = .ok (.if_icmp .ge 29, 3) := by decide +kernel
theorem dX9_isWell_138 : decode cX9_isWell 138 = .ok (.aload_n 0, 1) := by decide +kernel
theorem dX9_isWell_139 : decode cX9_isWell 139 = .ok (.iload_n 1, 1) := by decide +kernel
theorem dX9_isWell_140 : decode cX9_isWell 140 = .ok (.invokevirtual 44, 3) := by decide +kernel
theorem dX9_isWell_143 : decode cX9_isWell 143 = .ok (.iconst (-1), 1) := by decide +kernel
theorem dX9_isWell_144 : decode cX9_isWell 144 = .ok (.if_icmp .eq 14, 3) := by decide +kernel
theorem dX9_isWell_147 : decode cX9_isWell 147 = .ok (.aload_n 0, 1) := by decide +kernel
theorem dX9_isWell_148 : decode cX9_isWell 148 = .ok (.iload_n 1, 1) := by decide +kernel
theorem dX9_isWell_149 : decode cX9_isWell 149 = .ok (.invokevirtual 91, 3) := by decide +kernel
theorem dX9_isWell_152 : decode cX9_isWell 152 = .ok (.iconst (-1), 1) := by decide +kernel
theorem dX9_isWell_153 : decode cX9_isWell 153 = .ok (.if_icmp .ne 5, 3) := by decide +kernel
theorem dX9_isWell_156 : decode cX9_isWell 156 = .ok (.iconst 0, 1) := by decide +kernel
theorem dX9_isWell_157 : decode cX9_isWell 157 = .ok (.ireturn, 1) := by decide +kernel
theorem dX9_isWell_158 : decode cX9_isWell 158 = .ok (.iinc 1 1, 3) := by decide +kernel
theorem dX9_isWell_161 : decode cX9_isWell 161 = .ok (.goto (-28), 3) := by decide +kernel
theorem dX9_isWell_164 : decode cX9_isWell 164 = .ok (.iconst 1, 1) := by decide +kernel
theorem dX9_isWell_165 : decode cX9_isWell 165 = .ok (.ireturn, 1) := by decide +kernel
theorem dX10_init_0 : decode cX10_init 0 = .ok (.aload_n 0, 1) := by decide +kernel
theorem dX10_init_1 : decode cX10_init 1 = .ok (.invokespecial 3, 3) := by decide +kernel
theorem dX10_init_4 : decode cX10_init 4 = .ok (.aload_n 0, 1) := by decide +kernel
theorem dX10_init_5 : decode cX10_init 5 = .ok (.aload_n 1, 1) := by decide +kernel
theorem dX10_init_6 : decode cX10_init 6 = .ok (.putfield 9, 3) := by decide +kernel
theorem dX10_init_9 : decode cX10_init 9 = .ok (.aload_n 0, 1) := by decide +kernel
theorem dX10_init_10 : decode cX10_init 10 = .ok (.aload_n 2, 1) := by decide +kernel
theorem dX10_init_11 : decode cX10_init 11 = .ok (.putfield 15, 3) := by decide +kernel
theorem dX10_init_14 : decode cX10_init 14 = .ok (.aload_n 0, 1) := by decide +kernel
theorem dX10_init_15 : decode cX10_init 15 = .ok (.aload_n 3, 1) := by decide +kernel
theorem dX10_init_16 : decode cX10_init 16 = .ok (.putfield 19, 3) := by decide +kernel
theorem dX10_init_19 : decode cX10_init 19 = .ok (.aload_n 0, 1) := by decide +kernel
theorem dX10_init_20 : decode cX10_init 20 = .ok (.aload 4, 2) := by decide +kernel
theorem dX10_init_22 : decode cX10_init 22 = .ok (.putfield 23, 3) := by decide +kernel
theorem dX10_init_25 : decode cX10_init 25 = .ok (.aload_n 0, 1) := by decide +kernel
theorem dX10_init_26 : decode cX10_init 26 = .ok (.aload 5, 2) := by decide +kernel
theorem dX10_init_28 : decode cX10_init 28 = .ok (.putfield 26, 3) := by decide +kernel
theorem dX10_init_31 : decode cX10_init 31 = .ok (.aload_n 0, 1) := by decide +kernel
theorem dX10_init_32 : decode cX10_init 32 = .ok (.aload 6, 2) := by decide +kernel
theorem dX10_init_34 : decode cX10_init 34 = .ok (.putfield 30, 3) := by decide +kernel
theorem dX10_init_37 : decode cX10_init 37 = .ok (.aload_n 0, 1) := by decide +kernel
theorem dX10_init_38 : decode cX10_init 38 = .ok (.aload 7, 2) := by decide +kernel
theorem dX10_init_40 : decode cX10_init 40 = .ok (.putfield 34, 3) := by decide +kernel
theorem dX10_init_43 : decode cX10_init 43 = .ok (.aload_n 0, 1) := by decide +kernel
theorem dX10_init_44 : decode cX10_init 44 = .ok (.new 38, 3) := by decide +kernel
theorem dX10_init_47 : decode cX10_init 47 = .ok (.dup, 1) := by decide +kernel
theorem dX10_init_48 : decode cX10_init 48 = .ok (.bipush 60, 2) := by decide +kernel
theorem dX10_init_50 : decode cX10_init 50 = .ok (.invokespecial 40, 3) := by decide +kernel
theorem dX10_init_53 : decode cX10_init 53 = .ok (.putfield 43, 3) := by decide +kernel
theorem dX10_init_56 : decode cX10_init 56 = .ok (.aload_n 0, 1) := by decide +kernel
theorem dX10_init_57 : decode cX10_init 57 = .ok (.new 47, 3) := by decide +kernel
theorem dX10_init_60 : decode cX10_init 60 = .ok (.dup, 1) := by decide +kernel
theorem dX10_init_61 : decode cX10_init 61 = .ok (.invokespecial 49, 3) := by decide +kernel
theorem dX10_init_64 : decode cX10_init 64 = .ok (.putfield 50, 3) := by decide +kernel
theorem dX10_init_67 : decode cX10_init 67 = .ok (.aload_n 0, 1) := by decide +kernel
theorem dX10_init_68 : decode cX10_init 68 = .ok (.bipush 40, 2) := by decide +kernel
theorem dX10_init_70 : decode cX10_init 70 = .ok (.newarray .int, 2) := by decide +kernel
theorem dX10_init_72 : decode cX10_init 72 = .ok (.putfield 53, 3) := by decide +kernel
theorem dX10_init_75 : decode cX10_init 75 = .ok (.aload_n 0, 1) := by decide +kernel
theorem dX10_init_76 : decode cX10_init 76 = .ok (.bipush 40, 2) := by decide +kernel
theorem dX10_init_78 : decode cX10_init 78 = .ok (.newarray .int, 2) := by decide +kernel
theorem dX10_init_80 : decode cX10_init 80 = .ok (.putfield 57, 3) := by decide +kernel
theorem dX10_init_83 : decode cX10_init 83 = .ok (.return_, 1) := by decide +kernel
theorem dX10_perform_0 : decode cX10_perform 0 = .ok (.aload_n 0, 1) := by decide +kernel
theorem dX10_perform_1 : decode cX10_perform 1 = .ok (.iconst 0, 1) := by decide +kernel
theorem dX10_perform_2 : decode cX10_perform 2 = .ok (.putfield 60, 3) := by decide +kernel
theorem dX10_perform_5 : decode cX10_perform 5 = .ok (.aload_n 0, 1) := by decide +kernel
theorem dX10_perform_6 : decode cX10_perform 6 = .ok (.iconst 0, 1) := by decide +kernel
theorem dX10_perform_7 : decode cX10_perform 7 = .ok (.putfield 64, 3) := by decide +kernel
theorem dX10_perform_10 : decode cX10_perform 10 = .ok (.aload_n 0, 1) := by decide +kernel
theorem dX10_perform_11 : decode cX10_perform 11 = .ok (.getfield 30, 3) := by decide +kernel
theorem dX10_perform_14 : decode cX10_perform 14 = .ok (.iconst 0, 1) := by decide +kernel
theorem dX10_perform_15 : decode cX10_perform 15 = .ok (.putfield 67, 3) := by decide +kernel
theorem dX10_perform_18 : decode cX10_perform 18 = .ok (.iconst 0, 1) := by decide +kernel
theorem dX10_perform_19 : decode cX10_perform 19 = .ok (.istore_n 2, 1) := by decide +kernel
theorem dX10_perform_20 : decode cX10_perform 20 = .ok (.iconst 0, 1) := by decide +kernel
theorem dX10_perform_21 : decode cX10_perform 21 = .ok (.istore_n 3, 1) := by decide +kernel
theorem dX10_perform_22 : decode cX10_perform 22 = .ok (.iconst 0, 1) := by decide +kernel
theorem dX10_perform_23 : decode cX10_perform 23 = .ok (.istore 4, 2) := by decide +kernel
theorem dX10_perform_25 : decode cX10_perform 25 = .ok (.iload 4, 2) := by decide +kernel
theorem dX10_perform_27 : decode cX10_perform 27 = .ok (.bipush 60, 2) := by decide +kernel
theorem dX10_perform_29 : decode cX10_perform 29 = .ok (.if_icmp .gt 200, 3) := by decide +kernel
theorem dX10_perform_32 : decode cX10_perform 32 = .ok (.aload_n 0, 1) := by decide +kernel
theorem dX10_perform_33 : decode cX10_perform 33 = .ok (.getfield 9, 3) := by decide +kernel
theorem dX10_perform_36 : decode cX10_perform 36 = .ok (.iload_n 3, 1) := by decide +kernel
theorem dX10_perform_37 : decode cX10_perform 37 = .ok (.invokevirtual 73, 3) := by decide +kernel
theorem dX10_perform_40 : decode cX10_perform 40 = .ok (.astore 5, 2) := by decide +kernel
theorem dX10_perform_42 : decode cX10_perform 42 = .ok (.aload 5, 2) := by decide +kernel
theorem dX10_perform_44 : decode cX10_perform 44 = .ok (.ifnonnull 6, 3) := by decide +kernel
theorem dX10_perform_47 : decode cX10_perform 47 = .ok (.goto 182, 3) := by decide +kernel
theorem dX10_perform_50 : decode cX10_perform 50 = .ok (.aload_n 0, 1) := by decide +kernel
theorem dX10_perform_51 : decode cX10_perform 51 = .ok (.getfield 34, 3) := by decide +kernel
theorem dX10_perform_54 : decode cX10_perform 54 = .ok (.aload_n 0, 1) := by decide +kernel
theorem dX10_perform_55 : decode cX10_perform 55 = .ok (.getfield 15, 3) := by decide +kernel
theorem dX10_perform_58 : decode cX10_perform 58 = .ok (.invokevirtual 79, 3) := by decide +kernel
theorem dX10_perform_61 : decode cX10_perform 61 = .ok (.aload_n 0, 1) := by decide +kernel
theorem dX10_perform_62 : decode cX10_perform 62 = .ok (.aload 5, 2) := by decide +kernel
theorem dX10_perform_64 : decode cX10_perform 64 = .ok (.getfield 85, 3) := by decide +kernel
theorem dX10_perform_67 : decode cX10_perform 67 = .ok (.putfield 90, 3) := by decide +kernel
theorem dX10_perform_70 : decode cX10_perform 70 = .ok (.aload_n 0, 1) := by decide +kernel
theorem dX10_perform_71 : decode cX10_perform 71 = .ok (.dup, 1) := by decide +kernel
theorem dX10_perform_72 : decode cX10_perform 72 = .ok (.getfield 60, 3) := by decide +kernel
theorem dX10_perform_75 : decode cX10_perform 75 = .ok (.iconst 1, 1) := by decide +kernel
theorem dX10_perform_76 : decode cX10_perform 76 = .ok (.iadd, 1) := by decide +kernel
theorem dX10_perform_77 : decode cX10_perform 77 = .ok (.putfield 60, 3) := by decide +kernel
theorem dX10_perform_80 : decode cX10_perform 80 = .ok (.aload_n 0, 1) := by decide +kernel
theorem dX10_perform_81 : decode cX10_perform 81 = .ok (.aload_n 0, 1) := by decide +kernel
theorem dX10_perform_82 : decode cX10_perform 82 = .ok (.getfield 60, 3) := by decide +kernel
theorem dX10_perform_85 : decode cX10_perform 85 = .ok (.bipush 60, 2) := by decide +kernel
theorem dX10_perform_87 : decode cX10_perform 87 = .ok (.if_icmp .le 8, 3) := by decide +kernel
theorem dX10_perform_90 : decode cX10_perform 90 = .ok (.bipush 7, 2) := by decide +kernel
theorem dX10_perform_92 : decode cX10_perform 92 = .ok (.goto 9, 3) := by decide +kernel
theorem dX10_perform_95 : decode cX10_perform 95 = .ok (.aload_n 0, 1) := by decide +kernel
theorem dX10_perform_96 : decode cX10_perform 96 = .ok (.aload 5, 2) := by decide +kernel
theorem dX10_perform_98 : decode cX10_perform 98 = .ok (.invokevirtual 93, 3) := by decide +kernel
theorem dX10_perform_101 : decode cX10_perform 101 = .ok (.putfield 64, 3) := by decide +kernel
theorem dX10_perform_104 : decode cX10_perform 104 = .ok (.aload_n 0, 1) := by decide +kernel
theorem dX10_perform_105 : decode cX10_perform 105 = .ok (.getfield 64, 3) := by decide +kernel
theorem dX10_perform_108 : decode cX10_perform 108 = .ok (.ifCond .ne 24, 3) := by decide +kernel
theorem dX10_perform_111 : decode cX10_perform 111 = .ok (.aload 5, 2) := by decide +kernel
theorem dX10_perform_113 : decode cX10_perform 113 = .ok (.invokevirtual 97, 3) := by decide +kernel
theorem dX10_perform_116 : decode cX10_perform 116 = .ok (.ifCond .eq 16, 3) := by decide +kernel
theorem dX10_perform_119 : decode cX10_perform 119 = .ok (.aload_n 0, 1) := by decide +kernel
theorem dX10_perform_120 : decode cX10_perform 120 = .ok (.aload_n 0, 1) := by decide +kernel
theorem dX10_perform_121 : decode cX10_perform 121 = .ok (.aload 5, 2) := by decide +kernel
theorem dX10_perform_123 : decode cX10_perform 123 = .ok (.invokevirtual 101, 3) := by decide +kernel
theorem dX10_perform_126 : decode cX10_perform 126 = .ok (.putfield 64, 3) := by decide +kernel
theorem dX10_perform_129 : decode cX10_perform 129 = .ok (.goto 49, 3) := by decide +kernel
theorem dX10_perform_132 : decode cX10_perform 132 = .ok (.aload_n 0, 1) := by decide +kernel
theorem dX10_perform_133 : decode cX10_perform 133 = .ok (.getfield 64, 3) := by decide +kernel
theorem dX10_perform_136 : decode cX10_perform 136 = .ok (.ifCond .ne 25, 3) := by decide +kernel
theorem dX10_perform_139 : decode cX10_perform 139 = .ok (.aload 5, 2) := by decide +kernel
theorem dX10_perform_141 : decode cX10_perform 141 = .ok (.invokevirtual 104, 3) := by decide +kernel
theorem dX10_perform_144 : decode cX10_perform 144 = .ok (.ifCond .eq 17, 3) := by decide +kernel
theorem dX10_perform_147 : decode cX10_perform 147 = .ok (.aload_n 0, 1) := by decide +kernel
theorem dX10_perform_148 : decode cX10_perform 148 = .ok (.aload_n 0, 1) := by decide +kernel
theorem dX10_perform_149 : decode cX10_perform 149 = .ok (.aload 5, 2) := by decide +kernel
theorem dX10_perform_151 : decode cX10_perform 151 = .ok (.iload_n 3, 1) := by decide +kernel
theorem dX10_perform_152 : decode cX10_perform 152 = .ok (.invokevirtual 107, 3) := by decide +kernel
theorem dX10_perform_155 : decode cX10_perform 155 = .ok (.putfield 64, 3) := by decide +kernel
theorem dX10_perform_158 : decode cX10_perform 158 = .ok (.goto 20, 3) := by decide +kernel
theorem dX10_perform_161 : decode cX10_perform 161 = .ok (.aload_n 0, 1) := by decide +kernel
theorem dX10_perform_162 : decode cX10_perform 162 = .ok (.getfield 64, 3) := by decide +kernel
theorem dX10_perform_165 : decode cX10_perform 165 = .ok (.ifCond .ne 13, 3) := by decide +kernel
theorem dX10_perform_168 : decode cX10_perform 168 = .ok (.aload_n 0, 1) := by decide +kernel
theorem dX10_perform_169 : decode cX10_perform 169 = .ok (.aload_n 0, 1) := by decide +kernel
theorem dX10_perform_170 : decode cX10_perform 170 = .ok (.aload 5, 2) := by decide +kernel
theorem dX10_perform_172 : decode cX10_perform 172 = .ok (.invokevirtual 111, 3) := by decide +kernel
theorem dX10_perform_175 : decode cX10_perform 175 = .ok (.putfield 64, 3) := by decide +kernel
theorem dX10_perform_178 : decode cX10_perform 178 = .ok (.aload_n 0, 1) := by decide +kernel
theorem dX10_perform_179 : decode cX10_perform 179 = .ok (.getfield 64, 3) := by decide +kernel
theorem dX10_perform_182 : decode cX10_perform 182 = .ok (.ifCond .eq 17, 3) := by decide +kernel
theorem dX10_perform_185 : decode cX10_perform 185 = .ok (.aload_n 0, 1) := by decide +kernel
theorem dX10_perform_186 : decode cX10_perform 186 = .ok (.getfield 34, 3) := by decide +kernel
theorem dX10_perform_189 : decode cX10_perform 189 = .ok (.aload_n 0, 1) := by decide +kernel
theorem dX10_perform_190 : decode cX10_perform 190 = .ok (.getfield 15, 3) := by decide +kernel
theorem dX10_perform_193 : decode cX10_perform 193 = .ok (.invokevirtual 114, 3) := by decide +kernel
theorem dX10_perform_196 : decode cX10_perform 196 = .ok (.goto 33, 3) := by decide +kernel
theorem dX10_perform_199 : decode cX10_perform 199 = .ok (.aload 5, 2) := by decide +kernel
theorem dX10_perform_201 : decode cX10_perform 201 = .ok (.invokevirtual 117, 3) := by decide +kernel
theorem dX10_perform_204 : decode cX10_perform 204 = .ok (.ifCond .eq 11, 3) := by decide +kernel
theorem dX10_perform_207 : decode cX10_perform 207 = .ok (.aload_n 0, 1) := by decide +kernel
theorem dX10_perform_208 : decode cX10_perform 208 = .ok (.getfield 34, 3) := by decide +kernel
theorem dX10_perform_211 : decode cX10_perform 211 = .ok (.iload_n 1, 1) := by decide +kernel
theorem dX10_perform_212 : decode cX10_perform 212 = .ok (.invokevirtual 120, 3) := by decide +kernel
theorem dX10_perform_215 : decode cX10_perform 215 = .ok (.iinc 2 1, 3) := by decide +kernel
theorem dX10_perform_218 : decode cX10_perform 218 = .ok (.aload_n 0, 1) := by decide +kernel
theorem dX10_perform_219 : decode cX10_perform 219 = .ok (.getfield 90, 3) := by decide +kernel
theorem dX10_perform_222 : decode cX10_perform 222 = .ok (.istore_n 3, 1) := by decide +kernel
theorem dX10_perform_223 : decode cX10_perform 223 = .ok (.iinc 4 1, 3) := by decide +kernel
theorem dX10_perform_226 : decode cX10_perform 226 = .ok (.goto (-201), 3) := by decide +kernel
theorem dX10_perform_229 : decode cX10_perform 229 = .ok (.iload_n 2, 1) := by decide +kernel
theorem dX10_perform_230 : decode cX10_perform 230 = .ok (.ireturn, 1) := by decide +kernel
theorem dX10_findRange_0 : decode cX10_findRange 0 = .ok (.aload_n 0, 1) := by decide +kernel
theorem dX10_findRange_1 : decode cX10_findRange 1 = .ok (.getfield 15, 3) := by decide +kernel
theorem dX10_findRange_4 : decode cX10_findRange 4 = .ok (.getfield 123, 3) := by decide +kernel
theorem dX10_findRange_7 : decode cX10_findRange 7 = .ok (.getfield 126, 3) := by decide +kernel
theorem dX10_findRange_10 : decode cX10_findRange 10 = .ok (.istore_n 2, 1) := by decide +kernel
theorem dX10_findRange_11 : decode cX10_findRange 11 = .ok (.aload_n 1, 1) := by decide +kernel
theorem dX10_findRange_12 : decode cX10_findRange 12 = .ok (.getfield 129, 3) := by decide +kernel
theorem dX10_findRange_15 : decode cX10_findRange 15 = .ok (.iconst 1, 1) := by decide +kernel
theorem dX10_findRange_16 : decode cX10_findRange 16 = .ok (.if_icmp .eq 17, 3) := by decide +kernel
theorem dX10_findRange_19 : decode cX10_findRange 19 = .ok (.aload_n 1, 1) := by decide +kernel
theorem dX10_findRange_20 : decode cX10_findRange 20 = .ok (.getfield 129, 3) := by decide +kernel
theorem dX10_findRange_23 : decode cX10_findRange 23 = .ok (.ifCond .ne 14, 3) := by decide +kernel
theorem dX10_findRange_26 : decode cX10_findRange 26 = .ok (.aload_n 1, 1) := by decide +kernel
theorem dX10_findRange_27 : decode cX10_findRange 27 = .ok (.invokevirtual 132, 3) := by decide +kernel
theorem dX10_findRange_30 : decode cX10_findRange 30 = .ok (.ifCond .eq 7, 3) := by decide +kernel
theorem dX10_findRange_33 : decode cX10_findRange 33 = .ok (.iconst 1, 1) := by decide +kernel
theorem dX10_findRange_34 : decode cX10_findRange 34 = .ok (.goto 4, 3) := by decide +kernel
theorem dX10_findRange_37 : decode cX10_findRange 37 = .ok (.iconst 0, 1) := by decide +kernel
theorem dX10_findRange_38 : decode cX10_findRange 38 = .ok (.istore_n 3, 1) := by decide +kernel
theorem dX10_findRange_39 : decode cX10_findRange 39 = .ok (.aload_n 1, 1) := by decide +kernel
theorem dX10_findRange_40 : decode cX10_findRange 40 = .ok (.getfield 129, 3) := by decide +kernel
theorem dX10_findRange_43 : decode cX10_findRange 43 = .ok (.ifCond .ne 12, 3) := by decide +kernel
theorem dX10_findRange_46 : decode cX10_findRange 46 = .ok (.aload_n 1, 1) := by decide +kernel
theorem dX10_findRange_47 : decode cX10_findRange 47 = .ok (.invokevirtual 97, 3) := by decide +kernel
theorem dX10_findRange_50 : decode cX10_findRange 50 = .ok (.ifCond .eq 5, 3) := by decide +kernel
theorem dX10_findRange_53 : decode cX10_findRange 53 = .ok (.iconst 0, 1) := by decide +kernel
theorem dX10_findRange_54 : decode cX10_findRange 54 = .ok (.ireturn, 1) := by decide +kernel
theorem dX10_findRange_55 : decode cX10_findRange 55 = .ok (.aload_n 0, 1) := by decide +kernel
theorem dX10_findRange_56 : decode cX10_findRange 56 = .ok (.aload_n 0, 1) := by decide +kernel
theorem dX10_findRange_57 : decode cX10_findRange 57 = .ok (.getfield 15, 3) := by decide +kernel
theorem dX10_findRange_60 : decode cX10_findRange 60 = .ok (.getfield 135, 3) := by decide +kernel
theorem dX10_findRange_63 : decode cX10_findRange 63 = .ok (.putfield 138, 3) := by decide +kernel
theorem dX10_findRange_66 : decode cX10_findRange 66 = .ok (.aload_n 0, 1) := by decide +kernel
theorem dX10_findRange_67 : decode cX10_findRange 67 = .ok (.aload_n 0, 1) := by decide +kernel
theorem dX10_findRange_68 : decode cX10_findRange 68 = .ok (.getfield 15, 3) := by decide +kernel
theorem dX10_findRange_71 : decode cX10_findRange 71 = .ok (.getfield 135, 3) := by decide +kernel
theorem dX10_findRange_74 : decode cX10_findRange 74 = .ok (.putfield 141, 3) := by decide +kernel
theorem dX10_findRange_77 : decode cX10_findRange 77 = .ok (.iload_n 3, 1) := by decide +kernel
theorem dX10_findRange_78 : decode cX10_findRange 78 = .ok (.ifCond .eq 30, 3) := by decide +kernel
theorem dX10_findRange_81 : decode cX10_findRange 81 = .ok (.aload_n 0, 1) := by decide +kernel
theorem dX10_findRange_82 : decode cX10_findRange 82 = .ok (.iconst 1, 1) := by decide +kernel
theorem dX10_findRange_83 : decode cX10_findRange 83 = .ok (.putfield 138, 3) := by decide +kernel
theorem dX10_findRange_86 : decode cX10_findRange 86 = .ok (.aload_n 0, 1) := by decide +kernel
theorem dX10_findRange_87 : decode cX10_findRange 87 = .ok (.iload_n 2, 1) := by decide +kernel
theorem dX10_findRange_88 : decode cX10_findRange 88 = .ok (.putfield 141, 3) := by decide +kernel
theorem dX10_findRange_91 : decode cX10_findRange 91 = .ok (.iload_n 2, 1) := by decide +kernel
theorem dX10_findRange_92 : decode cX10_findRange 92 = .ok (.ifCond .gt 10, 3) := by decide +kernel
theorem dX10_findRange_95 : decode cX10_findRange 95 = .ok (.aload_n 1, 1) := by decide +kernel
theorem dX10_findRange_96 : decode cX10_findRange 96 = .ok (.invokevirtual 132, 3) := by decide +kernel
theorem dX10_findRange_99 : decode cX10_findRange 99 = .ok (.ifCond .eq 7, 3) := by decide +kernel
theorem dX10_findRange_102 : decode cX10_findRange 102 = .ok (.iconst 0, 1) := by decide +kernel
theorem dX10_findRange_103 : decode cX10_findRange 103 = .ok (.goto 4, 3) := by decide +kernel
theorem dX10_findRange_106 : decode cX10_findRange 106 = .ok (.iconst 1, 1) := by decide +kernel
theorem dX10_findRange_107 : decode cX10_findRange 107 = .ok (.ireturn, 1) := by decide +kernel
theorem dX10_findRange_108 : decode cX10_findRange 108 = .ok (.aload_n 1, 1) := by decide +kernel
theorem dX10_findRange_109 : decode cX10_findRange 109 = .ok (.getfield 129, 3) := by decide +kernel
theorem dX10_findRange_112 : decode cX10_findRange 112 = .ok (.iconst 2, 1) := by decide +kernel
theorem dX10_findRange_113 : decode cX10_findRange 113 = .ok (.if_icmp .eq 11, 3) := by decide +kernel
theorem dX10_findRange_116 : decode cX10_findRange 116 = .ok (.aload_n 1, 1) := by decide +kernel
theorem dX10_findRange_117 : decode cX10_findRange 117 = .ok (.getfield 129, 3) := by decide +kernel
theorem dX10_findRange_120 : decode cX10_findRange 120 = .ok (.iconst 3, 1) := by decide +kernel
theorem dX10_findRange_121 : decode cX10_findRange 121 = .ok (.if_icmp .ne 49, 3) := by decide +kernel
theorem dX10_findRange_124 : decode cX10_findRange 124 = .ok (.aload_n 0, 1) := by decide +kernel
theorem dX10_findRange_125 : decode cX10_findRange 125 = .ok (.aload_n 0, 1) := by decide +kernel
theorem dX10_findRange_126 : decode cX10_findRange 126 = .ok (.aload_n 1, 1) := by decide +kernel
theorem dX10_findRange_127 : decode cX10_findRange 127 = .ok (.getfield 144, 3) := by decide +kernel
theorem dX10_findRange_130 : decode cX10_findRange 130 = .ok (.invokevirtual 147, 3) := by decide +kernel
theorem dX10_findRange_133 : decode cX10_findRange 133 = .ok (.putfield 138, 3) := by decide +kernel
theorem dX10_findRange_136 : decode cX10_findRange 136 = .ok (.aload_n 0, 1) := by decide +kernel
theorem dX10_findRange_137 : decode cX10_findRange 137 = .ok (.aload_n 1, 1) := by decide +kernel
theorem dX10_findRange_138 : decode cX10_findRange 138 = .ok (.getfield 129, 3) := by decide +kernel
theorem dX10_findRange_141 : decode cX10_findRange 141 = .ok (.iconst 3, 1) := by decide +kernel
theorem dX10_findRange_142 : decode cX10_findRange 142 = .ok (.if_icmp .ne 21, 3) := by decide +kernel
theorem dX10_findRange_145 : decode cX10_findRange 145 = .ok (.aload_n 0, 1) := by decide +kernel
theorem dX10_findRange_146 : decode cX10_findRange 146 = .ok (.getfield 138, 3) := by decide +kernel
theorem dX10_findRange_149 : decode cX10_findRange 149 = .ok (.ifCond .lt 14, 3) := by decide +kernel
theorem dX10_findRange_152 : decode cX10_findRange 152 = .ok (.aload_n 0, 1) := by decide +kernel
theorem dX10_findRange_153 : decode cX10_findRange 153 = .ok (.aload_n 1, 1) := by decide +kernel
theorem dX10_findRange_154 : decode cX10_findRange 154 = .ok (.getfield 151, 3) := by decide +kernel
theorem dX10_findRange_157 : decode cX10_findRange 157 = .ok (.invokevirtual 147, 3) := by decide +kernel
theorem dX10_findRange_160 : decode cX10_findRange 160 = .ok (.goto 7, 3) := by decide +kernel
theorem dX10_findRange_163 : decode cX10_findRange 163 = .ok (.aload_n 0, 1) := by decide +kernel
theorem dX10_findRange_164 : decode cX10_findRange 164 = .ok (.getfield 138, 3) := by decide +kernel
theorem dX10_findRange_167 : decode cX10_findRange 167 = .ok (.putfield 141, 3) := by decide +kernel
theorem dX10_findRange_170 : decode cX10_findRange 170 = .ok (.aload_n 0, 1) := by decide +kernel
theorem dX10_findRange_171 : decode cX10_findRange 171 = .ok (.getfield 138, 3) := by decide +kernel
theorem dX10_findRange_174 : decode cX10_findRange 174 = .ok (.ifCond .lt 10, 3) := by decide +kernel
theorem dX10_findRange_177 : decode cX10_findRange 177 = .ok (.aload_n 0, 1) := by decide +kernel
theorem dX10_findRange_178 : decode cX10_findRange 178 = .ok (.getfield 141, 3) := by decide +kernel
theorem dX10_findRange_181 : decode cX10_findRange 181 = .ok (.ifCond .ge 16, 3) := by decide +kernel
theorem dX10_findRange_184 : decode cX10_findRange 184 = .ok (.aload_n 0, 1) := by decide +kernel
theorem dX10_findRange_185 : decode cX10_findRange 185 = .ok (.getfield 138, 3) := by decide +kernel
theorem dX10_findRange_188 : decode cX10_findRange 188 = .ok (.aload_n 0, 1) := by decide +kernel
theorem dX10_findRange_189 : decode cX10_findRange 189 = .ok (.getfield 141, 3) := by decide +kernel
theorem dX10_findRange_192 : decode cX10_findRange 192 = .ok (.invokestatic 154, 3) := by decide +kernel
theorem dX10_findRange_195 : decode cX10_findRange 195 = .ok (.ineg, 1) := by decide +kernel
theorem dX10_findRange_196 : decode cX10_findRange 196 = .ok (.ireturn, 1) := by decide +kernel
theorem dX10_findRange_197 : decode cX10_findRange 197 = .ok (.aload_n 0, 1) := by decide +kernel
theorem dX10_findRange_198 : decode cX10_findRange 198 = .ok (.getfield 138, 3) := by decide +kernel
theorem dX10_findRange_201 : decode cX10_findRange 201 = .ok (.aload_n 0, 1) := by decide +kernel
theorem dX10_findRange_202 : decode cX10_findRange 202 = .ok (.getfield 141, 3) := by decide +kernel
theorem dX10_findRange_205 : decode cX10_findRange 205 = .ok (.if_icmp .gt 17, 3) := by decide +kernel
theorem dX10_findRange_208 : decode cX10_findRange 208 = .ok (.aload_n 0, 1) := by decide +kernel
theorem dX10_findRange_209 : decode cX10_findRange 209 = .ok (.getfield 138, 3) := by decide +kernel
theorem dX10_findRange_212 : decode cX10_findRange 212 = .ok (.ifCond .ne 14, 3) := by decide +kernel
theorem dX10_findRange_215 : decode cX10_findRange 215 = .ok (.aload_n 1, 1) := by decide +kernel
theorem dX10_findRange_216 : decode cX10_findRange 216 = .ok (.invokevirtual 160, 3) := by decide +kernel
theorem dX10_findRange_219 : decode cX10_findRange 219 = .ok (.ifCond .ne 7, 3) := by decide +kernel
theorem dX10_findRange_222 : decode cX10_findRange 222 = .ok (.iconst 1, 1) := by decide +kernel
theorem dX10_findRange_223 : decode cX10_findRange 223 = .ok (.goto 4, 3) := by decide +kernel
theorem dX10_findRange_226 : decode cX10_findRange 226 = .ok (.iconst 0, 1) := by decide +kernel
theorem dX10_findRange_227 : decode cX10_findRange 227 = .ok (.ireturn, 1) := by decide +kernel
theorem dX10_locate_0 : decode cX10_locate 0 = .ok (.aload_n 0, 1) := by decide +kernel
theorem dX10_locate_1 : decode cX10_locate 1 = .ok (.getfield 15, 3) := by decide +kernel
theorem dX10_locate_4 : decode cX10_locate 4 = .ok (.getfield 135, 3) := by decide +kernel
theorem dX10_locate_7 : decode cX10_locate 7 = .ok (.istore_n 2, 1) := by decide +kernel
theorem dX10_locate_8 : decode cX10_locate 8 = .ok (.aload_n 1, 1) := by decide +kernel
theorem dX10_locate_9 : decode cX10_locate 9 = .ok (.getfield 163, 3) := by decide +kernel
theorem dX10_locate_12 : decode cX10_locate 12 = .ok (.bipush 48, 2) := by decide +kernel
theorem dX10_locate_14 : decode cX10_locate 14 = .ok (.if_icmp .ne 11, 3) := by decide +kernel
theorem dX10_locate_17 : decode cX10_locate 17 = .ok (.aload_n 1, 1) := by decide +kernel
theorem dX10_locate_18 : decode cX10_locate 18 = .ok (.getfield 168, 3) := by decide +kernel
theorem dX10_locate_21 : decode cX10_locate 21 = .ok (.istore_n 2, 1) := by decide +kernel
theorem dX10_locate_22 : decode cX10_locate 22 = .ok (.goto 111, 3) := by decide +kernel
theorem dX10_locate_25 : decode cX10_locate 25 = .ok (.aload_n 1, 1) := by decide +kernel
theorem dX10_locate_26 : decode cX10_locate 26 = .ok (.getfield 163, 3) := by decide +kernel
theorem dX10_locate_29 : decode cX10_locate 29 = .ok (.bipush 36, 2) := by decide +kernel
theorem dX10_locate_31 : decode cX10_locate 31 = .ok (.if_icmp .ne 17, 3) := by decide +kernel
theorem dX10_locate_34 : decode cX10_locate 34 = .ok (.aload_n 0, 1) := by decide +kernel
theorem dX10_locate_35 : decode cX10_locate 35 = .ok (.getfield 15, 3) := by decide +kernel
theorem dX10_locate_38 : decode cX10_locate 38 = .ok (.getfield 123, 3) := by decide +kernel
theorem dX10_locate_41 : decode cX10_locate 41 = .ok (.getfield 126, 3) := by decide +kernel
theorem dX10_locate_44 : decode cX10_locate 44 = .ok (.istore_n 2, 1) := by decide +kernel
theorem dX10_locate_45 : decode cX10_locate 45 = .ok (.goto 88, 3) := by decide +kernel
theorem dX10_locate_48 : decode cX10_locate 48 = .ok (.aload_n 1, 1) := by decide +kernel
theorem dX10_locate_49 : decode cX10_locate 49 = .ok (.getfield 163, 3) := by decide +kernel
