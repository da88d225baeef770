theorem dX2_turn_21 : decode cX2_turn 21 = .ok (.arraylength, 1) := by decide +kernel
theorem dX2_turn_22 : decode cX2_turn 22 = .ok (.if_icmp .ge 81, 3) := by decide +kernel
theorem dX2_turn_25 : decode cX2_turn 25 = .ok (.aload_n 0, 1) := by decide +kernel
theorem dX2_turn_26 : decode cX2_turn 26 = .ok (.getfield 15, 3) := by decide +kernel
theorem dX2_turn_29 : decode cX2_turn 29 = .ok (.getfield 65, 3) := by decide +kernel
theorem dX2_turn_32 : decode cX2_turn 32 = .ok (.iload_n 2, 1) := by decide +kernel
theorem dX2_turn_33 : decode cX2_turn 33 = .ok (.baload, 1) := by decide +kernel
theorem dX2_turn_34 : decode cX2_turn 34 = .ok (.istore_n 3, 1) := by decide +kernel
theorem dX2_turn_35 : decode cX2_turn 35 = .ok (.iload_n 3, 1) := by decide +kernel
theorem dX2_turn_36 : decode cX2_turn 36 = .ok (.istore 4, 2) := by decide +kernel
theorem dX2_turn_38 : decode cX2_turn 38 = .ok (.aload_n 1, 1) := by decide +kernel
theorem dX2_turn_39 : decode cX2_turn 39 = .ok (.getfield 49, 3) := by decide +kernel
theorem dX2_turn_42 : decode cX2_turn 42 = .ok (.iconst 1, 1) := by decide +kernel
theorem dX2_turn_43 : decode cX2_turn 43 = .ok (.isub, 1) := by decide +kernel
theorem dX2_turn_44 : decode cX2_turn 44 = .ok (.istore 5, 2) := by decide +kernel
theorem dX2_turn_46 : decode cX2_turn 46 = .ok (.iload 5, 2) := by decide +kernel
theorem dX2_turn_48 : decode cX2_turn 48 = .ok (.ifCond .lt 43, 3) := by decide +kernel
theorem dX2_turn_51 : decode cX2_turn 51 = .ok (.aload_n 0, 1) := by decide +kernel
theorem dX2_turn_52 : decode cX2_turn 52 = .ok (.getfield 9, 3) := by decide +kernel
theorem dX2_turn_55 : decode cX2_turn 55 = .ok (.aload_n 1, 1) := by decide +kernel
theorem dX2_turn_56 : decode cX2_turn 56 = .ok (.getfield 98, 3) := by decide +kernel
theorem dX2_turn_59 : decode cX2_turn 59 = .ok (.iload 5, 2) := by decide +kernel
theorem dX2_turn_61 : decode cX2_turn 61 = .ok (.iadd, 1) := by decide +kernel
theorem dX2_turn_62 : decode cX2_turn 62 = .ok (.invokevirtual 104, 3) := by decide +kernel
theorem dX2_turn_65 : decode cX2_turn 65 = .ok (.iload_n 3, 1) := by decide +kernel
theorem dX2_turn_66 : decode cX2_turn 66 = .ok (.if_icmp .ne 19, 3) := by decide +kernel
theorem dX2_turn_69 : decode cX2_turn 69 = .ok (.aload_n 0, 1) := by decide +kernel
theorem dX2_turn_70 : decode cX2_turn 70 = .ok (.getfield 9, 3) := by decide +kernel
theorem dX2_turn_73 : decode cX2_turn 73 = .ok (.aload_n 1, 1) := by decide +kernel
theorem dX2_turn_74 : decode cX2_turn 74 = .ok (.getfield 101, 3) := by decide +kernel
theorem dX2_turn_77 : decode cX2_turn 77 = .ok (.iload 5, 2) := by decide +kernel
theorem dX2_turn_79 : decode cX2_turn 79 = .ok (.iadd, 1) := by decide +kernel
theorem dX2_turn_80 : decode cX2_turn 80 = .ok (.invokevirtual 104, 3) := by decide +kernel
theorem dX2_turn_83 : decode cX2_turn 83 = .ok (.istore 4, 2) := by decide +kernel
theorem dX2_turn_85 : decode cX2_turn 85 = .ok (.iinc 5 (-1), 3) := by decide +kernel
theorem dX2_turn_88 : decode cX2_turn 88 = .ok (.goto (-42), 3) := by decide +kernel
theorem dX2_turn_91 : decode cX2_turn 91 = .ok (.aload_n 0, 1) := by decide +kernel
theorem dX2_turn_92 : decode cX2_turn 92 = .ok (.iload 4, 2) := by decide +kernel
theorem dX2_turn_94 : decode cX2_turn 94 = .ok (.invokevirtual 117, 3) := by decide +kernel
theorem dX2_turn_97 : decode cX2_turn 97 = .ok (.iinc 2 1, 3) := by decide +kernel
theorem dX2_turn_100 : decode cX2_turn 100 = .ok (.goto (-98), 3) := by decide +kernel
theorem dX2_turn_103 : decode cX2_turn 103 = .ok (.return_, 1) := by decide +kernel
theorem dX2_shiftBehind_0 : decode cX2_shiftBehind 0 = .ok (.iconst 0, 1) := by decide +kernel
theorem dX2_shiftBehind_1 : decode cX2_shiftBehind 1 = .ok (.istore_n 2, 1) := by decide +kernel
theorem dX2_shiftBehind_2 : decode cX2_shiftBehind 2 = .ok (.iload_n 2, 1) := by decide +kernel
theorem dX2_shiftBehind_3 : decode cX2_shiftBehind 3 = .ok (.iload_n 1, 1) := by decide +kernel
theorem dX2_shiftBehind_4 : decode cX2_shiftBehind 4 = .ok (.if_icmp .ge 15, 3) := by decide +kernel
theorem dX2_shiftBehind_7 : decode cX2_shiftBehind 7 = .ok (.aload_n 0, 1) := by decide +kernel
theorem dX2_shiftBehind_8 : decode cX2_shiftBehind 8 = .ok (.bipush 32, 2) := by decide +kernel
theorem dX2_shiftBehind_10 : decode cX2_shiftBehind 10 = .ok (.invokevirtual 117, 3) := by decide +kernel
theorem dX2_shiftBehind_13 : decode cX2_shiftBehind 13 = .ok (.iinc 2 1, 3) := by decide +kernel
theorem dX2_shiftBehind_16 : decode cX2_shiftBehind 16 = .ok (.goto (-14), 3) := by decide +kernel
theorem dX2_shiftBehind_19 : decode cX2_shiftBehind 19 = .ok (.aload_n 0, 1) := by decide +kernel
theorem dX2_shiftBehind_20 : decode cX2_shiftBehind 20 = .ok (.iconst 0, 1) := by decide +kernel
theorem dX2_shiftBehind_21 : decode cX2_shiftBehind 21 = .ok (.aload_n 0, 1) := by decide +kernel
theorem dX2_shiftBehind_22 : decode cX2_shiftBehind 22 = .ok (.getfield 15, 3) := by decide +kernel
theorem dX2_shiftBehind_25 : decode cX2_shiftBehind 25 = .ok (.getfield 97, 3) := by decide +kernel
theorem dX2_shiftBehind_28 : decode cX2_shiftBehind 28 = .ok (.invokevirtual 87, 3) := by decide +kernel
theorem dX2_shiftBehind_31 : decode cX2_shiftBehind 31 = .ok (.return_, 1) := by decide +kernel
theorem dX2_shiftAhead_0 : decode cX2_shiftAhead 0 = .ok (.iconst 0, 1) := by decide +kernel
theorem dX2_shiftAhead_1 : decode cX2_shiftAhead 1 = .ok (.istore_n 2, 1) := by decide +kernel
theorem dX2_shiftAhead_2 : decode cX2_shiftAhead 2 = .ok (.iconst 0, 1) := by decide +kernel
theorem dX2_shiftAhead_3 : decode cX2_shiftAhead 3 = .ok (.istore_n 3, 1) := by decide +kernel
theorem dX2_shiftAhead_4 : decode cX2_shiftAhead 4 = .ok (.iload_n 3, 1) := by decide +kernel
theorem dX2_shiftAhead_5 : decode cX2_shiftAhead 5 = .ok (.iload_n 1, 1) := by decide +kernel
theorem dX2_shiftAhead_6 : decode cX2_shiftAhead 6 = .ok (.if_icmp .ge 52, 3) := by decide +kernel
theorem dX2_shiftAhead_9 : decode cX2_shiftAhead 9 = .ok (.iload_n 3, 1) := by decide +kernel
theorem dX2_shiftAhead_10 : decode cX2_shiftAhead 10 = .ok (.aload_n 0, 1) := by decide +kernel
theorem dX2_shiftAhead_11 : decode cX2_shiftAhead 11 = .ok (.getfield 15, 3) := by decide +kernel
theorem dX2_shiftAhead_14 : decode cX2_shiftAhead 14 = .ok (.getfield 97, 3) := by decide +kernel
theorem dX2_shiftAhead_17 : decode cX2_shiftAhead 17 = .ok (.if_icmp .ge 41, 3) := by decide +kernel
theorem dX2_shiftAhead_20 : decode cX2_shiftAhead 20 = .ok (.iload_n 3, 1) := by decide +kernel
theorem dX2_shiftAhead_21 : decode cX2_shiftAhead 21 = .ok (.aload_n 0, 1) := by decide +kernel
theorem dX2_shiftAhead_22 : decode cX2_shiftAhead 22 = .ok (.getfield 15, 3) := by decide +kernel
theorem dX2_shiftAhead_25 : decode cX2_shiftAhead 25 = .ok (.getfield 65, 3) := by decide +kernel
theorem dX2_shiftAhead_28 : decode cX2_shiftAhead 28 = .ok (.arraylength, 1) := by decide +kernel
theorem dX2_shiftAhead_29 : decode cX2_shiftAhead 29 = .ok (.if_icmp .ge 29, 3) := by decide +kernel
theorem dX2_shiftAhead_32 : decode cX2_shiftAhead 32 = .ok (.aload_n 0, 1) := by decide +kernel
theorem dX2_shiftAhead_33 : decode cX2_shiftAhead 33 = .ok (.getfield 15, 3) := by decide +kernel
theorem dX2_shiftAhead_36 : decode cX2_shiftAhead 36 = .ok (.getfield 65, 3) := by decide +kernel
theorem dX2_shiftAhead_39 : decode cX2_shiftAhead 39 = .ok (.iload_n 3, 1) := by decide +kernel
theorem dX2_shiftAhead_40 : decode cX2_shiftAhead 40 = .ok (.baload, 1) := by decide +kernel
theorem dX2_shiftAhead_41 : decode cX2_shiftAhead 41 = .ok (.bipush 32, 2) := by decide +kernel
theorem dX2_shiftAhead_43 : decode cX2_shiftAhead 43 = .ok (.if_icmp .eq 6, 3) := by decide +kernel
theorem dX2_shiftAhead_46 : decode cX2_shiftAhead 46 = .ok (.goto 12, 3) := by decide +kernel
theorem dX2_shiftAhead_49 : decode cX2_shiftAhead 49 = .ok (.iinc 2 1, 3) := by decide +kernel
theorem dX2_shiftAhead_52 : decode cX2_shiftAhead 52 = .ok (.iinc 3 1, 3) := by decide +kernel
theorem dX2_shiftAhead_55 : decode cX2_shiftAhead 55 = .ok (.goto (-51), 3) := by decide +kernel
theorem dX2_shiftAhead_58 : decode cX2_shiftAhead 58 = .ok (.aload_n 0, 1) := by decide +kernel
theorem dX2_shiftAhead_59 : decode cX2_shiftAhead 59 = .ok (.iload_n 2, 1) := by decide +kernel
theorem dX2_shiftAhead_60 : decode cX2_shiftAhead 60 = .ok (.aload_n 0, 1) := by decide +kernel
theorem dX2_shiftAhead_61 : decode cX2_shiftAhead 61 = .ok (.getfield 15, 3) := by decide +kernel
theorem dX2_shiftAhead_64 : decode cX2_shiftAhead 64 = .ok (.getfield 97, 3) := by decide +kernel
theorem dX2_shiftAhead_67 : decode cX2_shiftAhead 67 = .ok (.invokevirtual 87, 3) := by decide +kernel
theorem dX2_shiftAhead_70 : decode cX2_shiftAhead 70 = .ok (.return_, 1) := by decide +kernel
theorem dX3_init_0 : decode cX3_init 0 = .ok (.aload_n 0, 1) := by decide +kernel
theorem dX3_init_1 : decode cX3_init 1 = .ok (.invokespecial 3, 3) := by decide +kernel
theorem dX3_init_4 : decode cX3_init 4 = .ok (.aload_n 0, 1) := by decide +kernel
theorem dX3_init_5 : decode cX3_init 5 = .ok (.bipush 41, 2) := by decide +kernel
theorem dX3_init_7 : decode cX3_init 7 = .ok (.anewarray 9, 3) := by decide +kernel
theorem dX3_init_10 : decode cX3_init 10 = .ok (.putfield 11, 3) := by decide +kernel
theorem dX3_init_13 : decode cX3_init 13 = .ok (.aload_n 0, 1) := by decide +kernel
theorem dX3_init_14 : decode cX3_init 14 = .ok (.bipush 41, 2) := by decide +kernel
theorem dX3_init_16 : decode cX3_init 16 = .ok (.newarray .int, 2) := by decide +kernel
theorem dX3_init_18 : decode cX3_init 18 = .ok (.putfield 17, 3) := by decide +kernel
theorem dX3_init_21 : decode cX3_init 21 = .ok (.iconst 0, 1) := by decide +kernel
theorem dX3_init_22 : decode cX3_init 22 = .ok (.istore_n 1, 1) := by decide +kernel
theorem dX3_init_23 : decode cX3_init 23 = .ok (.iload_n 1, 1) := by decide +kernel
theorem dX3_init_24 : decode cX3_init 24 = .ok (.bipush 40, 2) := by decide +kernel
theorem dX3_init_26 : decode cX3_init 26 = .ok (.if_icmp .gt 22, 3) := by decide +kernel
theorem dX3_init_29 : decode cX3_init 29 = .ok (.aload_n 0, 1) := by decide +kernel
theorem dX3_init_30 : decode cX3_init 30 = .ok (.getfield 11, 3) := by decide +kernel
theorem dX3_init_33 : decode cX3_init 33 = .ok (.iload_n 1, 1) := by decide +kernel
theorem dX3_init_34 : decode cX3_init 34 = .ok (.new 9, 3) := by decide +kernel
theorem dX3_init_37 : decode cX3_init 37 = .ok (.dup, 1) := by decide +kernel
theorem dX3_init_38 : decode cX3_init 38 = .ok (.invokespecial 21, 3) := by decide +kernel
theorem dX3_init_41 : decode cX3_init 41 = .ok (.aastore, 1) := by decide +kernel
theorem dX3_init_42 : decode cX3_init 42 = .ok (.iinc 1 1, 3) := by decide +kernel
theorem dX3_init_45 : decode cX3_init 45 = .ok (.goto (-22), 3) := by decide +kernel
theorem dX3_init_48 : decode cX3_init 48 = .ok (.return_, 1) := by decide +kernel
theorem dX3_slotOf_0 : decode cX3_slotOf 0 = .ok (.aload_n 0, 1) := by decide +kernel
theorem dX3_slotOf_1 : decode cX3_slotOf 1 = .ok (.getfield 22, 3) := by decide +kernel
theorem dX3_slotOf_4 : decode cX3_slotOf 4 = .ok (.iload_n 1, 1) := by decide +kernel
theorem dX3_slotOf_5 : decode cX3_slotOf 5 = .ok (.iadd, 1) := by decide +kernel
theorem dX3_slotOf_6 : decode cX3_slotOf 6 = .ok (.bipush 41, 2) := by decide +kernel
theorem dX3_slotOf_8 : decode cX3_slotOf 8 = .ok (.invokestatic 26, 3) := by decide +kernel
theorem dX3_slotOf_11 : decode cX3_slotOf 11 = .ok (.ireturn, 1) := by decide +kernel
theorem dX3_slot_0 : decode cX3_slot 0 = .ok (.aload_n 0, 1) := by decide +kernel
theorem dX3_slot_1 : decode cX3_slot 1 = .ok (.iload_n 1, 1) := by decide +kernel
theorem dX3_slot_2 : decode cX3_slot 2 = .ok (.invokevirtual 32, 3) := by decide +kernel
theorem dX3_slot_5 : decode cX3_slot 5 = .ok (.istore_n 2, 1) := by decide +kernel
theorem dX3_slot_6 : decode cX3_slot 6 = .ok (.iload_n 2, 1) := by decide +kernel
theorem dX3_slot_7 : decode cX3_slot 7 = .ok (.ifCond .lt 21, 3) := by decide +kernel
theorem dX3_slot_10 : decode cX3_slot 10 = .ok (.iload_n 2, 1) := by decide +kernel
theorem dX3_slot_11 : decode cX3_slot 11 = .ok (.aload_n 0, 1) := by decide +kernel
theorem dX3_slot_12 : decode cX3_slot 12 = .ok (.getfield 11, 3) := by decide +kernel
theorem dX3_slot_15 : decode cX3_slot 15 = .ok (.arraylength, 1) := by decide +kernel
theorem dX3_slot_16 : decode cX3_slot 16 = .ok (.if_icmp .ge 12, 3) := by decide +kernel
theorem dX3_slot_19 : decode cX3_slot 19 = .ok (.aload_n 0, 1) := by decide +kernel
theorem dX3_slot_20 : decode cX3_slot 20 = .ok (.getfield 11, 3) := by decide +kernel
theorem dX3_slot_23 : decode cX3_slot 23 = .ok (.iload_n 2, 1) := by decide +kernel
theorem dX3_slot_24 : decode cX3_slot 24 = .ok (.aaload, 1) := by decide +kernel
theorem dX3_slot_25 : decode cX3_slot 25 = .ok (.goto 4, 3) := by decide +kernel
theorem dX3_slot_28 : decode cX3_slot 28 = .ok (.aconst_null, 1) := by decide +kernel
theorem dX3_slot_29 : decode cX3_slot 29 = .ok (.areturn, 1) := by decide +kernel
theorem dX3_note_0 : decode cX3_note 0 = .ok (.aload_n 0, 1) := by decide +kernel
theorem dX3_note_1 : decode cX3_note 1 = .ok (.aload_n 0, 1) := by decide +kernel
theorem dX3_note_2 : decode cX3_note 2 = .ok (.getfield 36, 3) := by decide +kernel
theorem dX3_note_5 : decode cX3_note 5 = .ok (.invokevirtual 39, 3) := by decide +kernel
theorem dX3_note_8 : decode cX3_note 8 = .ok (.astore_n 2, 1) := by decide +kernel
theorem dX3_note_9 : decode cX3_note 9 = .ok (.aload_n 2, 1) := by decide +kernel
theorem dX3_note_10 : decode cX3_note 10 = .ok (.ifnull 8, 3) := by decide +kernel
theorem dX3_note_13 : decode cX3_note 13 = .ok (.aload_n 2, 1) := by decide +kernel
theorem dX3_note_14 : decode cX3_note 14 = .ok (.aload_n 1, 1) := by decide +kernel
theorem dX3_note_15 : decode cX3_note 15 = .ok (.invokevirtual 43, 3) := by decide +kernel
theorem dX3_note_18 : decode cX3_note 18 = .ok (.aload_n 0, 1) := by decide +kernel
theorem dX3_note_19 : decode cX3_note 19 = .ok (.aload_n 1, 1) := by decide +kernel
theorem dX3_note_20 : decode cX3_note 20 = .ok (.getfield 47, 3) := by decide +kernel
theorem dX3_note_23 : decode cX3_note 23 = .ok (.putfield 50, 3) := by decide +kernel
theorem dX3_note_26 : decode cX3_note 26 = .ok (.return_, 1) := by decide +kernel
theorem dX3_restore_0 : decode cX3_restore 0 = .ok (.aload_n 0, 1) := by decide +kernel
theorem dX3_restore_1 : decode cX3_restore 1 = .ok (.aload_n 0, 1) := by decide +kernel
theorem dX3_restore_2 : decode cX3_restore 2 = .ok (.getfield 36, 3) := by decide +kernel
theorem dX3_restore_5 : decode cX3_restore 5 = .ok (.invokevirtual 39, 3) := by decide +kernel
theorem dX3_restore_8 : decode cX3_restore 8 = .ok (.astore_n 2, 1) := by decide +kernel
theorem dX3_restore_9 : decode cX3_restore 9 = .ok (.aload_n 2, 1) := by decide +kernel
theorem dX3_restore_10 : decode cX3_restore 10 = .ok (.ifnull 8, 3) := by decide +kernel
theorem dX3_restore_13 : decode cX3_restore 13 = .ok (.aload_n 1, 1) := by decide +kernel
theorem dX3_restore_14 : decode cX3_restore 14 = .ok (.aload_n 2, 1) := by decide +kernel
theorem dX3_restore_15 : decode cX3_restore 15 = .ok (.invokevirtual 43, 3) := by decide +kernel
theorem dX3_restore_18 : decode cX3_restore 18 = .ok (.aload_n 1, 1) := by decide +kernel
theorem dX3_restore_19 : decode cX3_restore 19 = .ok (.aload_n 0, 1) := by decide +kernel
theorem dX3_restore_20 : decode cX3_restore 20 = .ok (.getfield 50, 3) := by decide +kernel
theorem dX3_restore_23 : decode cX3_restore 23 = .ok (.putfield 47, 3) := by decide +kernel
theorem dX3_restore_26 : decode cX3_restore 26 = .ok (.return_, 1) := by decide +kernel
theorem dX3_store_0 : decode cX3_store 0 = .ok (.aload_n 0, 1) := by decide +kernel
theorem dX3_store_1 : decode cX3_store 1 = .ok (.aload_n 0, 1) := by decide +kernel
theorem dX3_store_2 : decode cX3_store 2 = .ok (.getfield 36, 3) := by decide +kernel
theorem dX3_store_5 : decode cX3_store 5 = .ok (.invokevirtual 32, 3) := by decide +kernel
theorem dX3_store_8 : decode cX3_store 8 = .ok (.istore_n 2, 1) := by decide +kernel
theorem dX3_store_9 : decode cX3_store 9 = .ok (.iload_n 2, 1) := by decide +kernel
theorem dX3_store_10 : decode cX3_store 10 = .ok (.ifCond .lt 19, 3) := by decide +kernel
theorem dX3_store_13 : decode cX3_store 13 = .ok (.iload_n 2, 1) := by decide +kernel
theorem dX3_store_14 : decode cX3_store 14 = .ok (.aload_n 0, 1) := by decide +kernel
theorem dX3_store_15 : decode cX3_store 15 = .ok (.getfield 17, 3) := by decide +kernel
theorem dX3_store_18 : decode cX3_store 18 = .ok (.arraylength, 1) := by decide +kernel
theorem dX3_store_19 : decode cX3_store 19 = .ok (.if_icmp .ge 10, 3) := by decide +kernel
theorem dX3_store_22 : decode cX3_store 22 = .ok (.aload_n 0, 1) := by decide +kernel
theorem dX3_store_23 : decode cX3_store 23 = .ok (.getfield 17, 3) := by decide +kernel
theorem dX3_store_26 : decode cX3_store 26 = .ok (.iload_n 2, 1) := by decide +kernel
theorem dX3_store_27 : decode cX3_store 27 = .ok (.iload_n 1, 1) := by decide +kernel
theorem dX3_store_28 : decode cX3_store 28 = .ok (.iastore, 1) := by decide +kernel
theorem dX3_store_29 : decode cX3_store 29 = .ok (.aload_n 0, 1) := by decide +kernel
theorem dX3_store_30 : decode cX3_store 30 = .ok (.getfield 36, 3) := by decide +kernel
theorem dX3_store_33 : decode cX3_store 33 = .ok (.bipush 40, 2) := by decide +kernel
theorem dX3_store_35 : decode cX3_store 35 = .ok (.if_icmp .ge 16, 3) := by decide +kernel
theorem dX3_store_38 : decode cX3_store 38 = .ok (.aload_n 0, 1) := by decide +kernel
theorem dX3_store_39 : decode cX3_store 39 = .ok (.dup, 1) := by decide +kernel
theorem dX3_store_40 : decode cX3_store 40 = .ok (.getfield 36, 3) := by decide +kernel
theorem dX3_store_43 : decode cX3_store 43 = .ok (.iconst 1, 1) := by decide +kernel
theorem dX3_store_44 : decode cX3_store 44 = .ok (.iadd, 1) := by decide +kernel
theorem dX3_store_45 : decode cX3_store 45 = .ok (.putfield 36, 3) := by decide +kernel
theorem dX3_store_48 : decode cX3_store 48 = .ok (.goto 12, 3) := by decide +kernel
theorem dX3_store_51 : decode cX3_store 51 = .ok (.aload_n 0, 1) := by decide +kernel
theorem dX3_store_52 : decode cX3_store 52 = .ok (.aload_n 0, 1) := by decide +kernel
theorem dX3_store_53 : decode cX3_store 53 = .ok (.iconst 1, 1) := by decide +kernel
theorem dX3_store_54 : decode cX3_store 54 = .ok (.invokevirtual 32, 3) := by decide +kernel
theorem dX3_store_57 : decode cX3_store 57 = .ok (.putfield 22, 3) := by decide +kernel
theorem dX3_store_60 : decode cX3_store 60 = .ok (.return_, 1) := by decide +kernel
theorem dX3_latestCall_0 : decode cX3_latestCall 0 = .ok (.aload_n 0, 1) := by decide +kernel
theorem dX3_latestCall_1 : decode cX3_latestCall 1 = .ok (.aload_n 0, 1) := by decide +kernel
theorem dX3_latestCall_2 : decode cX3_latestCall 2 = .ok (.getfield 36, 3) := by decide +kernel
theorem dX3_latestCall_5 : decode cX3_latestCall 5 = .ok (.iconst 1, 1) := by decide +kernel
theorem dX3_latestCall_6 : decode cX3_latestCall 6 = .ok (.isub, 1) := by decide +kernel
theorem dX3_latestCall_7 : decode cX3_latestCall 7 = .ok (.invokevirtual 32, 3) := by decide +kernel
theorem dX3_latestCall_10 : decode cX3_latestCall 10 = .ok (.istore_n 1, 1) := by decide +kernel
theorem dX3_latestCall_11 : decode cX3_latestCall 11 = .ok (.aload_n 0, 1) := by decide +kernel
theorem dX3_latestCall_12 : decode cX3_latestCall 12 = .ok (.getfield 36, 3) := by decide +kernel
theorem dX3_latestCall_15 : decode cX3_latestCall 15 = .ok (.ifCond .le 25, 3) := by decide +kernel
theorem dX3_latestCall_18 : decode cX3_latestCall 18 = .ok (.iload_n 1, 1) := by decide +kernel
theorem dX3_latestCall_19 : decode cX3_latestCall 19 = .ok (.ifCond .lt 21, 3) := by decide +kernel
theorem dX3_latestCall_22 : decode cX3_latestCall 22 = .ok (.iload_n 1, 1) := by decide +kernel
theorem dX3_latestCall_23 : decode cX3_latestCall 23 = .ok (.aload_n 0, 1) := by decide +kernel
theorem dX3_latestCall_24 : decode cX3_latestCall 24 = .ok (.getfield 17, 3) := by decide +kernel
theorem dX3_latestCall_27 : decode cX3_latestCall 27 = .ok (.arraylength, 1) := by decide +kernel
theorem dX3_latestCall_28 : decode cX3_latestCall 28 = .ok (.if_icmp .ge 12, 3) := by decide +kernel
theorem dX3_latestCall_31 : decode cX3_latestCall 31 = .ok (.aload_n 0, 1) := by decide +kernel
theorem dX3_latestCall_32 : decode cX3_latestCall 32 = .ok (.getfield 17, 3) := by decide +kernel
theorem dX3_latestCall_35 : decode cX3_latestCall 35 = .ok (.iload_n 1, 1) := by decide +kernel
theorem dX3_latestCall_36 : decode cX3_latestCall 36 = .ok (.iaload, 1) := by decide +kernel
theorem dX3_latestCall_37 : decode cX3_latestCall 37 = .ok (.goto 4, 3) := by decide +kernel
theorem dX3_latestCall_40 : decode cX3_latestCall 40 = .ok (.iconst (-1), 1) := by decide +kernel
theorem dX3_latestCall_41 : decode cX3_latestCall 41 = .ok (.ireturn, 1) := by decide +kernel
theorem dX3_takeBack_0 : decode cX3_takeBack 0 = .ok (.aload_n 0, 1) := by decide +kernel
theorem dX3_takeBack_1 : decode cX3_takeBack 1 = .ok (.getfield 36, 3) := by decide +kernel
theorem dX3_takeBack_4 : decode cX3_takeBack 4 = .ok (.ifCond .gt 4, 3) := by decide +kernel
theorem dX3_takeBack_7 : decode cX3_takeBack 7 = .ok (.return_, 1) := by decide +kernel
theorem dX3_takeBack_8 : decode cX3_takeBack 8 = .ok (.aload_n 0, 1) := by decide +kernel
theorem dX3_takeBack_9 : decode cX3_takeBack 9 = .ok (.dup, 1) := by decide +kernel
theorem dX3_takeBack_10 : decode cX3_takeBack 10 = .ok (.getfield 36, 3) := by decide +kernel
theorem dX3_takeBack_13 : decode cX3_takeBack 13 = .ok (.iconst 1, 1) := by decide +kernel
theorem dX3_takeBack_14 : decode cX3_takeBack 14 = .ok (.isub, 1) := by decide +kernel
theorem dX3_takeBack_15 : decode cX3_takeBack 15 = .ok (.putfield 36, 3) := by decide +kernel
theorem dX3_takeBack_18 : decode cX3_takeBack 18 = .ok (.aload_n 0, 1) := by decide +kernel
theorem dX3_takeBack_19 : decode cX3_takeBack 19 = .ok (.aload_n 0, 1) := by decide +kernel
theorem dX3_takeBack_20 : decode cX3_takeBack 20 = .ok (.getfield 36, 3) := by decide +kernel
theorem dX3_takeBack_23 : decode cX3_takeBack 23 = .ok (.invokevirtual 39, 3) := by decide +kernel
theorem dX3_takeBack_26 : decode cX3_takeBack 26 = .ok (.astore_n 2, 1) := by decide +kernel
theorem dX3_takeBack_27 : decode cX3_takeBack 27 = .ok (.aload_n 2, 1) := by decide +kernel
theorem dX3_takeBack_28 : decode cX3_takeBack 28 = .ok (.ifnull 8, 3) := by decide +kernel
theorem dX3_takeBack_31 : decode cX3_takeBack 31 = .ok (.aload_n 1, 1) := by decide +kernel
theorem dX3_takeBack_32 : decode cX3_takeBack 32 = .ok (.aload_n 2, 1) := by decide +kernel
theorem dX3_takeBack_33 : decode cX3_takeBack 33 = .ok (.invokevirtual 43, 3) := by decide +kernel
theorem dX3_takeBack_36 : decode cX3_takeBack 36 = .ok (.return_, 1) := by decide +kernel
theorem dX4_init_0 : decode cX4_init 0 = .ok (.aload_n 0, 1) := by decide +kernel
theorem dX4_init_1 : decode cX4_init 1 = .ok (.invokespecial 3, 3) := by decide +kernel
theorem dX4_init_4 : decode cX4_init 4 = .ok (.aload_n 0, 1) := by decide +kernel
theorem dX4_init_5 : decode cX4_init 5 = .ok (.aload_n 1, 1) := by decide +kernel
theorem dX4_init_6 : decode cX4_init 6 = .ok (.putfield 9, 3) := by decide +kernel
theorem dX4_init_9 : decode cX4_init 9 = .ok (.aload_n 0, 1) := by decide +kernel
theorem dX4_init_10 : decode cX4_init 10 = .ok (.bipush 30, 2) := by decide +kernel
theorem dX4_init_12 : decode cX4_init 12 = .ok (.newarray .byte, 2) := by decide +kernel
theorem dX4_init_14 : decode cX4_init 14 = .ok (.putfield 15, 3) := by decide +kernel
theorem dX4_init_17 : decode cX4_init 17 = .ok (.aload_n 0, 1) := by decide +kernel
theorem dX4_init_18 : decode cX4_init 18 = .ok (.bipush 30, 2) := by decide +kernel
theorem dX4_init_20 : decode cX4_init 20 = .ok (.newarray .long, 2) := by decide +kernel
theorem dX4_init_22 : decode cX4_init 22 = .ok (.putfield 19, 3) := by decide +kernel
theorem dX4_init_25 : decode cX4_init 25 = .ok (.aload_n 0, 1) := by decide +kernel
theorem dX4_init_26 : decode cX4_init 26 = .ok (.iconst 3, 1) := by decide +kernel
theorem dX4_init_27 : decode cX4_init 27 = .ok (.newarray .int, 2) := by decide +kernel
theorem dX4_init_29 : decode cX4_init 29 = .ok (.putfield 23, 3) := by decide +kernel
theorem dX4_init_32 : decode cX4_init 32 = .ok (.aload_n 0, 1) := by decide +kernel
theorem dX4_init_33 : decode cX4_init 33 = .ok (.iconst 3, 1) := by decide +kernel
theorem dX4_init_34 : decode cX4_init 34 = .ok (.newarray .int, 2) := by decide +kernel
theorem dX4_init_36 : decode cX4_init 36 = .ok (.putfield 27, 3) := by decide +kernel
theorem dX4_init_39 : decode cX4_init 39 = .ok (.return_, 1) := by decide +kernel
theorem dX4_load_0 : decode cX4_load 0 = .ok (.aload_n 0, 1) := by decide +kernel
theorem dX4_load_1 : decode cX4_load 1 = .ok (.iconst 0, 1) := by decide +kernel
theorem dX4_load_2 : decode cX4_load 2 = .ok (.putfield 30, 3) := by decide +kernel
theorem dX4_load_5 : decode cX4_load 5 = .ok (.aload_n 1, 1) := by decide +kernel
theorem dX4_load_6 : decode cX4_load 6 = .ok (.iload_n 2, 1) := by decide +kernel
theorem dX4_load_7 : decode cX4_load 7 = .ok (.invokevirtual 34, 3) := by decide +kernel
theorem dX4_load_10 : decode cX4_load 10 = .ok (.bipush 30, 2) := by decide +kernel
theorem dX4_load_12 : decode cX4_load 12 = .ok (.invokestatic 40, 3) := by decide +kernel
theorem dX4_load_15 : decode cX4_load 15 = .ok (.istore_n 3, 1) := by decide +kernel
theorem dX4_load_16 : decode cX4_load 16 = .ok (.iconst 0, 1) := by decide +kernel
theorem dX4_load_17 : decode cX4_load 17 = .ok (.istore 4, 2) := by decide +kernel
theorem dX4_load_19 : decode cX4_load 19 = .ok (.iload 4, 2) := by decide +kernel
theorem dX4_load_21 : decode cX4_load 21 = .ok (.iload_n 3, 1) := by decide +kernel
theorem dX4_load_22 : decode cX4_load 22 = .ok (.if_icmp .ge 68, 3) := by decide +kernel
theorem dX4_load_25 : decode cX4_load 25 = .ok (.iload 4, 2) := by decide +kernel
theorem dX4_load_27 : decode cX4_load 27 = .ok (.aload_n 0, 1) := by decide +kernel
theorem dX4_load_28 : decode cX4_load 28 = .ok (.getfield 15, 3) := by decide +kernel
theorem dX4_load_31 : decode cX4_load 31 = .ok (.arraylength, 1) := by decide +kernel
theorem dX4_load_32 : decode cX4_load 32 = .ok (.if_icmp .ge 58, 3) := by decide +kernel
theorem dX4_load_35 : decode cX4_load 35 = .ok (.iload 4, 2) := by decide +kernel
theorem dX4_load_37 : decode cX4_load 37 = .ok (.aload_n 0, 1) := by decide +kernel
theorem dX4_load_38 : decode cX4_load 38 = .ok (.getfield 19, 3) := by decide +kernel
theorem dX4_load_41 : decode cX4_load 41 = .ok (.arraylength, 1) := by decide +kernel
theorem dX4_load_42 : decode cX4_load 42 = .ok (.if_icmp .ge 48, 3) := by decide +kernel
theorem dX4_load_45 : decode cX4_load 45 = .ok (.aload_n 1, 1) := by decide +kernel
theorem dX4_load_46 : decode cX4_load 46 = .ok (.iload_n 2, 1) := by decide +kernel
theorem dX4_load_47 : decode cX4_load 47 = .ok (.iload 4, 2) := by decide +kernel
theorem dX4_load_49 : decode cX4_load 49 = .ok (.invokevirtual 46, 3) := by decide +kernel
theorem dX4_load_52 : decode cX4_load 52 = .ok (.istore 5, 2) := by decide +kernel
theorem dX4_load_54 : decode cX4_load 54 = .ok (.aload_n 0, 1) := by decide +kernel
theorem dX4_load_55 : decode cX4_load 55 = .ok (.getfield 15, 3) := by decide +kernel
theorem dX4_load_58 : decode cX4_load 58 = .ok (.iload 4, 2) := by decide +kernel
theorem dX4_load_60 : decode cX4_load 60 = .ok (.iload 5, 2) := by decide +kernel
theorem dX4_load_62 : decode cX4_load 62 = .ok (.i2b, 1) := by decide +kernel
theorem dX4_load_63 : decode cX4_load 63 = .ok (.bastore, 1) := by decide +kernel
theorem dX4_load_64 : decode cX4_load 64 = .ok (.aload_n 0, 1) := by decide +kernel
theorem dX4_load_65 : decode cX4_load 65 = .ok (.getfield 19, 3) := by decide +kernel
theorem dX4_load_68 : decode cX4_load 68 = .ok (.iload 4, 2) := by decide +kernel
theorem dX4_load_70 : decode cX4_load 70 = .ok (.iload 5, 2) := by decide +kernel
theorem dX4_load_72 : decode cX4_load 72 = .ok (.invokestatic 49, 3) := by decide +kernel
theorem dX4_load_75 : decode cX4_load 75 = .ok (.lastore, 1) := by decide +kernel
theorem dX4_load_76 : decode cX4_load 76 = .ok (.aload_n 0, 1) := by decide +kernel
theorem dX4_load_77 : decode cX4_load 77 = .ok (.iload 4, 2) := by decide +kernel
theorem dX4_load_79 : decode cX4_load 79 = .ok (.iconst 1, 1) := by decide +kernel
theorem dX4_load_80 : decode cX4_load 80 = .ok (.iadd, 1) := by decide +kernel
theorem dX4_load_81 : decode cX4_load 81 = .ok (.putfield 30, 3) := by decide +kernel
theorem dX4_load_84 : decode cX4_load 84 = .ok (.iinc 4 1, 3) := by decide +kernel
theorem dX4_load_87 : decode cX4_load 87 = .ok (.goto (-68), 3) := by decide +kernel
theorem dX4_load_90 : decode cX4_load 90 = .ok (.return_, 1) := by decide +kernel
theorem dX4_holds_0 : decode cX4_holds 0 = .ok (.aload_n 0, 1) := by decide +kernel
theorem dX4_holds_1 : decode cX4_holds 1 = .ok (.aload_n 1, 1) := by decide +kernel
theorem dX4_holds_2 : decode cX4_holds 2 = .ok (.iload_n 2, 1) := by decide +kernel
theorem dX4_holds_3 : decode cX4_holds 3 = .ok (.invokevirtual 53, 3) := by decide +kernel
theorem dX4_holds_6 : decode cX4_holds 6 = .ok (.aload_n 0, 1) := by decide +kernel
theorem dX4_holds_7 : decode cX4_holds 7 = .ok (.iload_n 3, 1) := by decide +kernel
theorem dX4_holds_8 : decode cX4_holds 8 = .ok (.iconst 0, 1) := by decide +kernel
theorem dX4_holds_9 : decode cX4_holds 9 = .ok (.iconst 0, 1) := by decide +kernel
theorem dX4_holds_10 : decode cX4_holds 10 = .ok (.invokevirtual 57, 3) := by decide +kernel
theorem dX4_holds_13 : decode cX4_holds 13 = .ok (.ireturn, 1) := by decide +kernel
theorem dX4_search_0 : decode cX4_search 0 = .ok (.iload_n 2, 1) := by decide +kernel
theorem dX4_search_1 : decode cX4_search 1 = .ok (.istore 4, 2) := by decide +kernel
theorem dX4_search_3 : decode cX4_search 3 = .ok (.iload 4, 2) := by decide +kernel
theorem dX4_search_5 : decode cX4_search 5 = .ok (.aload_n 0, 1) := by decide +kernel
theorem dX4_search_6 : decode cX4_search 6 = .ok (.getfield 30, 3) := by decide +kernel
theorem dX4_search_9 : decode cX4_search 9 = .ok (.if_icmp .gt 55, 3) := by decide +kernel
theorem dX4_search_12 : decode cX4_search 12 = .ok (.aload_n 0, 1) := by decide +kernel
theorem dX4_search_13 : decode cX4_search 13 = .ok (.iload_n 1, 1) := by decide +kernel
theorem dX4_search_14 : decode cX4_search 14 = .ok (.iload 4, 2) := by decide +kernel
theorem dX4_search_16 : decode cX4_search 16 = .ok (.iconst 0, 1) := by decide +kernel
theorem dX4_search_17 : decode cX4_search 17 = .ok (.invokevirtual 61, 3) := by decide +kernel
theorem dX4_search_20 : decode cX4_search 20 = .ok (.istore 5, 2) := by decide +kernel
theorem dX4_search_22 : decode cX4_search 22 = .ok (.iload 5, 2) := by decide +kernel
theorem dX4_search_24 : decode cX4_search 24 = .ok (.iconst (-1), 1) := by decide +kernel
theorem dX4_search_25 : decode cX4_search 25 = .ok (.if_icmp .eq 33, 3) := by decide +kernel
theorem dX4_search_28 : decode cX4_search 28 = .ok (.iload_n 3, 1) := by decide +kernel
theorem dX4_search_29 : decode cX4_search 29 = .ok (.ifCond .eq 15, 3) := by decide +kernel
theorem dX4_search_32 : decode cX4_search 32 = .ok (.iload 4, 2) := by decide +kernel
theorem dX4_search_34 : decode cX4_search 34 = .ok (.iload_n 2, 1) := by decide +kernel
theorem dX4_search_35 : decode cX4_search 35 = .ok (.if_icmp .ne 9, 3) := by decide +kernel
theorem dX4_search_38 : decode cX4_search 38 = .ok (.iload 5, 2) := by decide +kernel
theorem dX4_search_40 : decode cX4_search 40 = .ok (.iload_n 2, 1) := by decide +kernel
theorem dX4_search_41 : decode cX4_search 41 = .ok (.if_icmp .eq 17, 3) := by decide +kernel
theorem dX4_search_44 : decode cX4_search 44 = .ok (.aload_n 0, 1) := by decide +kernel
theorem dX4_search_45 : decode cX4_search 45 = .ok (.iload 4, 2) := by decide +kernel
theorem dX4_search_47 : decode cX4_search 47 = .ok (.putfield 65, 3) := by decide +kernel
theorem dX4_search_50 : decode cX4_search 50 = .ok (.aload_n 0, 1) := by decide +kernel
theorem dX4_search_51 : decode cX4_search 51 = .ok (.iload 5, 2) := by decide +kernel
theorem dX4_search_53 : decode cX4_search 53 = .ok (.putfield 68, 3) := by decide +kernel
theorem dX4_search_56 : decode cX4_search 56 = .ok (.iconst 1, 1) := by decide +kernel
theorem dX4_search_57 : decode cX4_search 57 = .ok (.ireturn, 1) := by decide +kernel
theorem dX4_search_58 : decode cX4_search 58 = .ok (.iinc 4 1, 3) := by decide +kernel
theorem dX4_search_61 : decode cX4_search 61 = .ok (.goto (-58), 3) := by decide +kernel
theorem dX4_search_64 : decode cX4_search 64 = .ok (.iconst 0, 1) := by decide +kernel
theorem dX4_search_65 : decode cX4_search 65 = .ok (.ireturn, 1) := by decide +kernel
theorem dX4_fits_0 : decode cX4_fits 0 = .ok (.iload_n 2, 1) := by decide +kernel
theorem dX4_fits_1 : decode cX4_fits 1 = .ok (.istore 4, 2) := by decide +kernel
theorem dX4_fits_3 : decode cX4_fits 3 = .ok (.iload_n 3, 1) := by decide +kernel
theorem dX4_fits_4 : decode cX4_fits 4 = .ok (.iconst 2, 1) := by decide +kernel
theorem dX4_fits_5 : decode cX4_fits 5 = .ok (.if_icmp .gt 36, 3) := by decide +kernel
theorem dX4_fits_8 : decode cX4_fits 8 = .ok (.iload_n 1, 1) := by decide +kernel
theorem dX4_fits_9 : decode cX4_fits 9 = .ok (.ifCond .lt 32, 3) := by decide +kernel
theorem dX4_fits_12 : decode cX4_fits 12 = .ok (.iload 4, 2) := by decide +kernel
theorem dX4_fits_14 : decode cX4_fits 14 = .ok (.ifCond .lt 27, 3) := by decide +kernel
theorem dX4_fits_17 : decode cX4_fits 17 = .ok (.aload_n 0, 1) := by decide +kernel
theorem dX4_fits_18 : decode cX4_fits 18 = .ok (.getfield 30, 3) := by decide +kernel
theorem dX4_fits_21 : decode cX4_fits 21 = .ok (.aload_n 0, 1) := by decide +kernel
theorem dX4_fits_22 : decode cX4_fits 22 = .ok (.getfield 15, 3) := by decide +kernel
theorem dX4_fits_25 : decode cX4_fits 25 = .ok (.arraylength, 1) := by decide +kernel
theorem dX4_fits_26 : decode cX4_fits 26 = .ok (.if_icmp .gt 15, 3) := by decide +kernel
theorem dX4_fits_29 : decode cX4_fits 29 = .ok (.aload_n 0, 1) := by decide +kernel
theorem dX4_fits_30 : decode cX4_fits 30 = .ok (.getfield 30, 3) := by decide +kernel
theorem dX4_fits_33 : decode cX4_fits 33 = .ok (.aload_n 0, 1) := by decide +kernel
theorem dX4_fits_34 : decode cX4_fits 34 = .ok (.getfield 19, 3) := by decide +kernel
theorem dX4_fits_37 : decode cX4_fits 37 = .ok (.arraylength, 1) := by decide +kernel
theorem dX4_fits_38 : decode cX4_fits 38 = .ok (.if_icmp .le 5, 3) := by decide +kernel
theorem dX4_fits_41 : decode cX4_fits 41 = .ok (.iconst (-1), 1) := by decide +kernel
theorem dX4_fits_42 : decode cX4_fits 42 = .ok (.ireturn, 1) := by decide +kernel
theorem dX4_fits_43 : decode cX4_fits 43 = .ok (.aload_n 0, 1) := by decide +kernel
theorem dX4_fits_44 : decode cX4_fits 44 = .ok (.getfield 9, 3) := by decide +kernel
theorem dX4_fits_47 : decode cX4_fits 47 = .ok (.getfield 71, 3) := by decide +kernel
theorem dX4_fits_50 : decode cX4_fits 50 = .ok (.aload_n 0, 1) := by decide +kernel
theorem dX4_fits_51 : decode cX4_fits 51 = .ok (.getfield 9, 3) := by decide +kernel
theorem dX4_fits_54 : decode cX4_fits 54 = .ok (.getfield 76, 3) := by decide +kernel
theorem dX4_fits_57 : decode cX4_fits 57 = .ok (.arraylength, 1) := by decide +kernel
theorem dX4_fits_58 : decode cX4_fits 58 = .ok (.aload_n 0, 1) := by decide +kernel
theorem dX4_fits_59 : decode cX4_fits 59 = .ok (.getfield 9, 3) := by decide +kernel
theorem dX4_fits_62 : decode cX4_fits 62 = .ok (.getfield 79, 3) := by decide +kernel
theorem dX4_fits_65 : decode cX4_fits 65 = .ok (.arraylength, 1) := by decide +kernel
theorem dX4_fits_66 : decode cX4_fits 66 = .ok (.invokestatic 40, 3) := by decide +kernel
theorem dX4_fits_69 : decode cX4_fits 69 = .ok (.invokestatic 40, 3) := by decide +kernel
theorem dX4_fits_72 : decode cX4_fits 72 = .ok (.istore 5, 2) := by decide +kernel
theorem dX4_fits_74 : decode cX4_fits 74 = .ok (.iload_n 1, 1) := by decide +kernel
theorem dX4_fits_75 : decode cX4_fits 75 = .ok (.istore 6, 2) := by decide +kernel
theorem dX4_fits_77 : decode cX4_fits 77 = .ok (.iload 6, 2) := by decide +kernel
theorem dX4_fits_79 : decode cX4_fits 79 = .ok (.iload 5, 2) := by decide +kernel
theorem dX4_fits_81 : decode cX4_fits 81 = .ok (.if_icmp .ge 294, 3) := by decide +kernel
theorem dX4_fits_84 : decode cX4_fits 84 = .ok (.aload_n 0, 1) := by decide +kernel
theorem dX4_fits_85 : decode cX4_fits 85 = .ok (.getfield 9, 3) := by decide +kernel
theorem dX4_fits_88 : decode cX4_fits 88 = .ok (.getfield 79, 3) := by decide +kernel
theorem dX4_fits_91 : decode cX4_fits 91 = .ok (.iload 6, 2) := by decide +kernel
theorem dX4_fits_93 : decode cX4_fits 93 = .ok (.laload, 1) := by decide +kernel
theorem dX4_fits_94 : decode cX4_fits 94 = .ok (.lstore 7, 2) := by decide +kernel
theorem dX4_fits_96 : decode cX4_fits 96 = .ok (.lload 7, 2) := by decide +kernel
theorem dX4_fits_98 : decode cX4_fits 98 = .ok (.lconst 1, 1) := by decide +kernel
theorem dX4_fits_99 : decode cX4_fits 99 = .ok (.lcmp, 1) := by decide +kernel
theorem dX4_fits_100 : decode cX4_fits 100 = .ok (.ifCond .lt 18, 3) := by decide +kernel
theorem dX4_fits_103 : decode cX4_fits 103 = .ok (.lload 7, 2) := by decide +kernel
theorem dX4_fits_105 : decode cX4_fits 105 = .ok (.ldc2_w 82, 3) := by decide +kernel
theorem dX4_fits_108 : decode cX4_fits 108 = .ok (.lcmp, 1) := by decide +kernel
theorem dX4_fits_109 : decode cX4_fits 109 = .ok (.ifCond .gt 9, 3) := by decide +kernel
theorem dX4_fits_112 : decode cX4_fits 112 = .ok (.lload 7, 2) := by decide +kernel
theorem dX4_fits_114 : decode cX4_fits 114 = .ok (.l2i, 1) := by decide +kernel
theorem dX4_fits_115 : decode cX4_fits 115 = .ok (.goto 4, 3) := by decide +kernel
theorem dX4_fits_118 : decode cX4_fits 118 = .ok (.iconst 0, 1) := by decide +kernel
theorem dX4_fits_119 : decode cX4_fits 119 = .ok (.istore 9, 2) := by decide +kernel
theorem dX4_fits_121 : decode cX4_fits 121 = .ok (.aload_n 0, 1) := by decide +kernel
theorem dX4_fits_122 : decode cX4_fits 122 = .ok (.getfield 9, 3) := by decide +kernel
theorem dX4_fits_125 : decode cX4_fits 125 = .ok (.getfield 76, 3) := by decide +kernel
theorem dX4_fits_128 : decode cX4_fits 128 = .ok (.iload 6, 2) := by decide +kernel
theorem dX4_fits_130 : decode cX4_fits 130 = .ok (.iaload, 1) := by decide +kernel
theorem dX4_fits_131 : decode cX4_fits 131 = .ok (.tableswitch 235 0 6 #[41, 73, 118, 130, 142, 217, 224], 41) := by decide +kernel
theorem dX4_fits_172 : decode cX4_fits 172 = .ok (.iload 4, 2) := by decide +kernel
theorem dX4_fits_174 : decode cX4_fits 174 = .ok (.aload_n 0, 1) := by decide +kernel
theorem dX4_fits_175 : decode cX4_fits 175 = .ok (.getfield 30, 3) := by decide +kernel
theorem dX4_fits_178 : decode cX4_fits 178 = .ok (.if_icmp .ge 18, 3) := by decide +kernel
theorem dX4_fits_181 : decode cX4_fits 181 = .ok (.aload_n 0, 1) := by decide +kernel
theorem dX4_fits_182 : decode cX4_fits 182 = .ok (.getfield 19, 3) := by decide +kernel
theorem dX4_fits_185 : decode cX4_fits 185 = .ok (.iload 4, 2) := by decide +kernel
theorem dX4_fits_187 : decode cX4_fits 187 = .ok (.laload, 1) := by decide +kernel
theorem dX4_fits_188 : decode cX4_fits 188 = .ok (.lload 7, 2) := by decide +kernel
theorem dX4_fits_190 : decode cX4_fits 190 = .ok (.land, 1) := by decide +kernel
theorem dX4_fits_191 : decode cX4_fits 191 = .ok (.lconst 0, 1) := by decide +kernel
theorem dX4_fits_192 : decode cX4_fits 192 = .ok (.lcmp, 1) := by decide +kernel
theorem dX4_fits_193 : decode cX4_fits 193 = .ok (.ifCond .ne 5, 3) := by decide +kernel
theorem dX4_fits_196 : decode cX4_fits 196 = .ok (.iconst (-1), 1) := by decide +kernel
theorem dX4_fits_197 : decode cX4_fits 197 = .ok (.ireturn, 1) := by decide +kernel
theorem dX4_fits_198 : decode cX4_fits 198 = .ok (.iinc 4 1, 3) := by decide +kernel
theorem dX4_fits_201 : decode cX4_fits 201 = .ok (.goto 168, 3) := by decide +kernel
theorem dX4_fits_204 : decode cX4_fits 204 = .ok (.aload_n 0, 1) := by decide +kernel
theorem dX4_fits_205 : decode cX4_fits 205 = .ok (.getfield 30, 3) := by decide +kernel
theorem dX4_fits_208 : decode cX4_fits 208 = .ok (.istore 10, 2) := by decide +kernel
theorem dX4_fits_210 : decode cX4_fits 210 = .ok (.iload 10, 2) := by decide +kernel
theorem dX4_fits_212 : decode cX4_fits 212 = .ok (.iload 4, 2) := by decide +kernel
theorem dX4_fits_214 : decode cX4_fits 214 = .ok (.if_icmp .lt 33, 3) := by decide +kernel
theorem dX4_fits_217 : decode cX4_fits 217 = .ok (.aload_n 0, 1) := by decide +kernel
theorem dX4_fits_218 : decode cX4_fits 218 = .ok (.iload 6, 2) := by decide +kernel
theorem dX4_fits_220 : decode cX4_fits 220 = .ok (.iconst 1, 1) := by decide +kernel
theorem dX4_fits_221 : decode cX4_fits 221 = .ok (.iadd, 1) := by decide +kernel
theorem dX4_fits_222 : decode cX4_fits 222 = .ok (.iload 10, 2) := by decide +kernel
theorem dX4_fits_224 : decode cX4_fits 224 = .ok (.iload_n 3, 1) := by decide +kernel
theorem dX4_fits_225 : decode cX4_fits 225 = .ok (.iconst 1, 1) := by decide +kernel
theorem dX4_fits_226 : decode cX4_fits 226 = .ok (.iadd, 1) := by decide +kernel
theorem dX4_fits_227 : decode cX4_fits 227 = .ok (.invokevirtual 61, 3) := by decide +kernel
theorem dX4_fits_230 : decode cX4_fits 230 = .ok (.istore 11, 2) := by decide +kernel
theorem dX4_fits_232 : decode cX4_fits 232 = .ok (.iload 11, 2) := by decide +kernel
theorem dX4_fits_234 : decode cX4_fits 234 = .ok (.iconst (-1), 1) := by decide +kernel
theorem dX4_fits_235 : decode cX4_fits 235 = .ok (.if_icmp .eq 6, 3) := by decide +kernel
theorem dX4_fits_238 : decode cX4_fits 238 = .ok (.iload 11, 2) := by decide +kernel
theorem dX4_fits_240 : decode cX4_fits 240 = .ok (.ireturn, 1) := by decide +kernel
theorem dX4_fits_241 : decode cX4_fits 241 = .ok (.iinc 10 (-1), 3) := by decide +kernel
theorem dX4_fits_244 : decode cX4_fits 244 = .ok (.goto (-34), 3) := by decide +kernel
theorem dX4_fits_247 : decode cX4_fits 247 = .ok (.iconst (-1), 1) := by decide +kernel
theorem dX4_fits_248 : decode cX4_fits 248 = .ok (.ireturn, 1) := by decide +kernel
theorem dX4_fits_249 : decode cX4_fits 249 = .ok (.aload_n 0, 1) := by decide +kernel
theorem dX4_fits_250 : decode cX4_fits 250 = .ok (.getfield 23, 3) := by decide +kernel
theorem dX4_fits_253 : decode cX4_fits 253 = .ok (.iload 9, 2) := by decide +kernel
theorem dX4_fits_255 : decode cX4_fits 255 = .ok (.iload 4, 2) := by decide +kernel
theorem dX4_fits_257 : decode cX4_fits 257 = .ok (.iastore, 1) := by decide +kernel
theorem dX4_fits_258 : decode cX4_fits 258 = .ok (.goto 111, 3) := by decide +kernel
theorem dX4_fits_261 : decode cX4_fits 261 = .ok (.aload_n 0, 1) := by decide +kernel
theorem dX4_fits_262 : decode cX4_fits 262 = .ok (.getfield 27, 3) := by decide +kernel
theorem dX4_fits_265 : decode cX4_fits 265 = .ok (.iload 9, 2) := by decide +kernel
theorem dX4_fits_267 : decode cX4_fits 267 = .ok (.iload 4, 2) := by decide +kernel
theorem dX4_fits_269 : decode cX4_fits 269 = .ok (.iastore, 1) := by decide +kernel
theorem dX4_fits_270 : decode cX4_fits 270 = .ok (.goto 99, 3) := by decide +kernel
theorem dX4_fits_273 : decode cX4_fits 273 = .ok (.aload_n 0, 1) := by decide +kernel
theorem dX4_fits_274 : decode cX4_fits 274 = .ok (.getfield 23, 3) := by decide +kernel
theorem dX4_fits_277 : decode cX4_fits 277 = .ok (.iload 9, 2) := by decide +kernel
theorem dX4_fits_279 : decode cX4_fits 279 = .ok (.iaload, 1) := by decide +kernel
theorem dX4_fits_280 : decode cX4_fits 280 = .ok (.istore 10, 2) := by decide +kernel
theorem dX4_fits_282 : decode cX4_fits 282 = .ok (.iload 10, 2) := by decide +kernel
theorem dX4_fits_284 : decode cX4_fits 284 = .ok (.aload_n 0, 1) := by decide +kernel
theorem dX4_fits_285 : decode cX4_fits 285 = .ok (.getfield 27, 3) := by decide +kernel
theorem dX4_fits_288 : decode cX4_fits 288 = .ok (.iload 9, 2) := by decide +kernel
theorem dX4_fits_290 : decode cX4_fits 290 = .ok (.iaload, 1) := by decide +kernel
theorem dX4_fits_291 : decode cX4_fits 291 = .ok (.if_icmp .ge 54, 3) := by decide +kernel
theorem dX4_fits_294 : decode cX4_fits 294 = .ok (.iload 4, 2) := by decide +kernel
theorem dX4_fits_296 : decode cX4_fits 296 = .ok (.aload_n 0, 1) := by decide +kernel
theorem dX4_fits_297 : decode cX4_fits 297 = .ok (.getfield 30, 3) := by decide +kernel
theorem dX4_fits_300 : decode cX4_fits 300 = .ok (.if_icmp .ge 34, 3) := by decide +kernel
theorem dX4_fits_303 : decode cX4_fits 303 = .ok (.iload 10, 2) := by decide +kernel
theorem dX4_fits_305 : decode cX4_fits 305 = .ok (.ifCond .lt 29, 3) := by decide +kernel
theorem dX4_fits_308 : decode cX4_fits 308 = .ok (.iload 10, 2) := by decide +kernel
theorem dX4_fits_310 : decode cX4_fits 310 = .ok (.aload_n 0, 1) := by decide +kernel
theorem dX4_fits_311 : decode cX4_fits 311 = .ok (.getfield 30, 3) := by decide +kernel
theorem dX4_fits_314 : decode cX4_fits 314 = .ok (.if_icmp .ge 20, 3) := by decide +kernel
theorem dX4_fits_317 : decode cX4_fits 317 = .ok (.aload_n 0, 1) := by decide +kernel
theorem dX4_fits_318 : decode cX4_fits 318 = .ok (.getfield 15, 3) := by decide +kernel
theorem dX4_fits_321 : decode cX4_fits 321 = .ok (.iload 10, 2) := by decide +kernel
theorem dX4_fits_323 : decode cX4_fits 323 = .ok (.baload, 1) := by decide +kernel
theorem dX4_fits_324 : decode cX4_fits 324 = .ok (.aload_n 0, 1) := by decide +kernel
theorem dX4_fits_325 : decode cX4_fits 325 = .ok (.getfield 15, 3) := by decide +kernel
theorem dX4_fits_328 : decode cX4_fits 328 = .ok (.iload 4, 2) := by decide +kernel
theorem dX4_fits_330 : decode cX4_fits 330 = .ok (.baload, 1) := by decide +kernel
theorem dX4_fits_331 : decode cX4_fits 331 = .ok (.if_icmp .eq 5, 3) := by decide +kernel
theorem dX4_fits_334 : decode cX4_fits 334 = .ok (.iconst (-1), 1) := by decide +kernel
theorem dX4_fits_335 : decode cX4_fits 335 = .ok (.ireturn, 1) := by decide +kernel
theorem dX4_fits_336 : decode cX4_fits 336 = .ok (.iinc 4 1, 3) := by decide +kernel
theorem dX4_fits_339 : decode cX4_fits 339 = .ok (.iinc 10 1, 3) := by decide +kernel
theorem dX4_fits_342 : decode cX4_fits 342 = .ok (.goto (-60), 3) := by decide +kernel
theorem dX4_fits_345 : decode cX4_fits 345 = .ok (.goto 24, 3) := by decide +kernel
theorem dX4_fits_348 : decode cX4_fits 348 = .ok (.iload 4, 2) := by decide +kernel
theorem dX4_fits_350 : decode cX4_fits 350 = .ok (.ifCond .eq 19, 3) := by decide +kernel
theorem dX4_fits_353 : decode cX4_fits 353 = .ok (.iconst (-1), 1) := by decide +kernel
theorem dX4_fits_354 : decode cX4_fits 354 = .ok (.ireturn, 1) := by decide +kernel
theorem dX4_fits_355 : decode cX4_fits 355 = .ok (.iload 4, 2) := by decide +kernel
theorem dX4_fits_357 : decode cX4_fits 357 = .ok (.aload_n 0, 1) := by decide +kernel
theorem dX4_fits_358 : decode cX4_fits 358 = .ok (.getfield 30, 3) := by decide +kernel
theorem dX4_fits_361 : decode cX4_fits 361 = .ok (.if_icmp .eq 8, 3) := by decide +kernel
theorem dX4_fits_364 : decode cX4_fits 364 = .ok (.iconst (-1), 1) := by decide +kernel
theorem dX4_fits_365 : decode cX4_fits 365 = .ok (.ireturn, 1) := by decide +kernel
theorem dX4_fits_366 : decode cX4_fits 366 = .ok (.iload 4, 2) := by decide +kernel
theorem dX4_fits_368 : decode cX4_fits 368 = .ok (.ireturn, 1) := by decide +kernel
theorem dX4_fits_369 : decode cX4_fits 369 = .ok (.iinc 6 1, 3) := by decide +kernel
theorem dX4_fits_372 : decode cX4_fits 372 = .ok (.goto (-295), 3) := by decide +kernel
theorem dX4_fits_375 : decode cX4_fits 375 = .ok (.iconst (-1), 1) := by decide +kernel
theorem dX4_fits_376 : decode cX4_fits 376 = .ok (.ireturn, 1) := by decide +kernel
theorem dX4_lineWith_0 : decode cX4_lineWith 0 = .ok (.aload_n 1, 1) := by decide +kernel
theorem dX4_lineWith_1 : decode cX4_lineWith 1 = .ok (.getfield 84, 3) := by decide +kernel
theorem dX4_lineWith_4 : decode cX4_lineWith 4 = .ok (.istore 4, 2) := by decide +kernel
theorem dX4_lineWith_6 : decode cX4_lineWith 6 = .ok (.aload_n 1, 1) := by decide +kernel
theorem dX4_lineWith_7 : decode cX4_lineWith 7 = .ok (.getfield 89, 3) := by decide +kernel
theorem dX4_lineWith_10 : decode cX4_lineWith 10 = .ok (.getfield 93, 3) := by decide +kernel
theorem dX4_lineWith_13 : decode cX4_lineWith 13 = .ok (.istore 5, 2) := by decide +kernel
theorem dX4_lineWith_15 : decode cX4_lineWith 15 = .ok (.iload 5, 2) := by decide +kernel
theorem dX4_lineWith_17 : decode cX4_lineWith 17 = .ok (.ifCond .le 79, 3) := by decide +kernel
theorem dX4_lineWith_20 : decode cX4_lineWith 20 = .ok (.iload 4, 2) := by decide +kernel
theorem dX4_lineWith_22 : decode cX4_lineWith 22 = .ok (.iload_n 3, 1) := by decide +kernel
theorem dX4_lineWith_23 : decode cX4_lineWith 23 = .ok (.ifCond .eq 7, 3) := by decide +kernel
theorem dX4_lineWith_26 : decode cX4_lineWith 26 = .ok (.iconst (-1), 1) := by decide +kernel
theorem dX4_lineWith_27 : decode cX4_lineWith 27 = .ok (.goto 4, 3) := by decide +kernel
theorem dX4_lineWith_30 : decode cX4_lineWith 30 = .ok (.iconst 1, 1) := by decide +kernel
theorem dX4_lineWith_31 : decode cX4_lineWith 31 = .ok (.iadd, 1) := by decide +kernel
theorem dX4_lineWith_32 : decode cX4_lineWith 32 = .ok (.istore 4, 2) := by decide +kernel
theorem dX4_lineWith_34 : decode cX4_lineWith 34 = .ok (.iload 4, 2) := by decide +kernel
theorem dX4_lineWith_36 : decode cX4_lineWith 36 = .ok (.aload_n 1, 1) := by decide +kernel
theorem dX4_lineWith_37 : decode cX4_lineWith 37 = .ok (.getfield 89, 3) := by decide +kernel
theorem dX4_lineWith_40 : decode cX4_lineWith 40 = .ok (.getfield 93, 3) := by decide +kernel
theorem dX4_lineWith_43 : decode cX4_lineWith 43 = .ok (.if_icmp .le 9, 3) := by decide +kernel
theorem dX4_lineWith_46 : decode cX4_lineWith 46 = .ok (.iconst 1, 1) := by decide +kernel
theorem dX4_lineWith_47 : decode cX4_lineWith 47 = .ok (.istore 4, 2) := by decide +kernel
theorem dX4_lineWith_49 : decode cX4_lineWith 49 = .ok (.goto 18, 3) := by decide +kernel
theorem dX4_lineWith_52 : decode cX4_lineWith 52 = .ok (.iload 4, 2) := by decide +kernel
theorem dX4_lineWith_54 : decode cX4_lineWith 54 = .ok (.iconst 1, 1) := by decide +kernel
theorem dX4_lineWith_55 : decode cX4_lineWith 55 = .ok (.if_icmp .ge 12, 3) := by decide +kernel
theorem dX4_lineWith_58 : decode cX4_lineWith 58 = .ok (.aload_n 1, 1) := by decide +kernel
theorem dX4_lineWith_59 : decode cX4_lineWith 59 = .ok (.getfield 89, 3) := by decide +kernel
theorem dX4_lineWith_62 : decode cX4_lineWith 62 = .ok (.getfield 93, 3) := by decide +kernel
theorem dX4_lineWith_65 : decode cX4_lineWith 65 = .ok (.istore 4, 2) := by decide +kernel
theorem dX4_lineWith_67 : decode cX4_lineWith 67 = .ok (.aload_n 0, 1) := by decide +kernel
theorem dX4_lineWith_68 : decode cX4_lineWith 68 = .ok (.aload_n 1, 1) := by decide +kernel
theorem dX4_lineWith_69 : decode cX4_lineWith 69 = .ok (.getfield 89, 3) := by decide +kernel
theorem dX4_lineWith_72 : decode cX4_lineWith 72 = .ok (.iload 4, 2) := by decide +kernel
theorem dX4_lineWith_74 : decode cX4_lineWith 74 = .ok (.invokevirtual 53, 3) := by decide +kernel
theorem dX4_lineWith_77 : decode cX4_lineWith 77 = .ok (.aload_n 0, 1) := by decide +kernel
theorem dX4_lineWith_78 : decode cX4_lineWith 78 = .ok (.iload_n 2, 1) := by decide +kernel
theorem dX4_lineWith_79 : decode cX4_lineWith 79 = .ok (.iconst 0, 1) := by decide +kernel
theorem dX4_lineWith_80 : decode cX4_lineWith 80 = .ok (.iconst 0, 1) := by decide +kernel
theorem dX4_lineWith_81 : decode cX4_lineWith 81 = .ok (.invokevirtual 57, 3) := by decide +kernel
theorem dX4_lineWith_84 : decode cX4_lineWith 84 = .ok (.ifCond .eq 6, 3) := by decide +kernel
theorem dX4_lineWith_87 : decode cX4_lineWith 87 = .ok (.iload 4, 2) := by decide +kernel
theorem dX4_lineWith_89 : decode cX4_lineWith 89 = .ok (.ireturn, 1) := by decide +kernel
theorem dX4_lineWith_90 : decode cX4_lineWith 90 = .ok (.iinc 5 (-1), 3) := by decide +kernel
theorem dX4_lineWith_93 : decode cX4_lineWith 93 = .ok (.goto (-78), 3) := by decide +kernel
theorem dX4_lineWith_96 : decode cX4_lineWith 96 = .ok (.iconst (-1), 1) := by decide +kernel
theorem dX4_lineWith_97 : decode cX4_lineWith 97 = .ok (.ireturn, 1) := by decide +kernel
theorem dX5_init_0 : decode cX5_init 0 = .ok (.aload_n 0, 1) := by decide +kernel
theorem dX5_init_1 : decode cX5_init 1 = .ok (.invokespecial 3, 3) := by decide +kernel
theorem dX5_init_4 : decode cX5_init 4 = .ok (.aload_n 0, 1) := by decide +kernel
theorem dX5_init_5 : decode cX5_init 5 = .ok (.new 9, 3) := by decide +kernel
theorem dX5_init_8 : decode cX5_init 8 = .ok (.dup, 1) := by decide +kernel
theorem dX5_init_9 : decode cX5_init 9 = .ok (.invokespecial 11, 3) := by decide +kernel
theorem dX5_init_12 : decode cX5_init 12 = .ok (.putfield 12, 3) := by decide +kernel
theorem dX5_init_15 : decode cX5_init 15 = .ok (.aload_n 0, 1) := by decide +kernel
theorem dX5_init_16 : decode cX5_init 16 = .ok (.new 9, 3) := by decide +kernel
theorem dX5_init_19 : decode cX5_init 19 = .ok (.dup, 1) := by decide +kernel
theorem dX5_init_20 : decode cX5_init 20 = .ok (.invokespecial 11, 3) := by decide +kernel
theorem dX5_init_23 : decode cX5_init 23 = .ok (.putfield 18, 3) := by decide +kernel
theorem dX5_init_26 : decode cX5_init 26 = .ok (.aload_n 0, 1) := by decide +kernel
theorem dX5_init_27 : decode cX5_init 27 = .ok (.new 9, 3) := by decide +kernel
theorem dX5_init_30 : decode cX5_init 30 = .ok (.dup, 1) := by decide +kernel
theorem dX5_init_31 : decode cX5_init 31 = .ok (.invokespecial 11, 3) := by decide +kernel
theorem dX5_init_34 : decode cX5_init 34 = .ok (.putfield 21, 3) := by decide +kernel
theorem dX5_init_37 : decode cX5_init 37 = .ok (.return_, 1) := by decide +kernel
theorem dX5_clear_0 : decode cX5_clear 0 = .ok (.aload_n 0, 1) := by decide +kernel
theorem dX5_clear_1 : decode cX5_clear 1 = .ok (.getfield 12, 3) := by decide +kernel
theorem dX5_clear_4 : decode cX5_clear 4 = .ok (.invokevirtual 24, 3) := by decide +kernel
theorem dX5_clear_7 : decode cX5_clear 7 = .ok (.aload_n 0, 1) := by decide +kernel
theorem dX5_clear_8 : decode cX5_clear 8 = .ok (.getfield 18, 3) := by decide +kernel
theorem dX5_clear_11 : decode cX5_clear 11 = .ok (.invokevirtual 24, 3) := by decide +kernel
theorem dX5_clear_14 : decode cX5_clear 14 = .ok (.aload_n 0, 1) := by decide +kernel
theorem dX5_clear_15 : decode cX5_clear 15 = .ok (.getfield 21, 3) := by decide +kernel
theorem dX5_clear_18 : decode cX5_clear 18 = .ok (.invokevirtual 24, 3) := by decide +kernel
theorem dX5_clear_21 : decode cX5_clear 21 = .ok (.aload_n 0, 1) := by decide +kernel
theorem dX5_clear_22 : decode cX5_clear 22 = .ok (.iconst 0, 1) := by decide +kernel
theorem dX5_clear_23 : decode cX5_clear 23 = .ok (.putfield 27, 3) := by decide +kernel
theorem dX5_clear_26 : decode cX5_clear 26 = .ok (.aload_n 0, 1) := by decide +kernel
theorem dX5_clear_27 : decode cX5_clear 27 = .ok (.iconst 0, 1) := by decide +kernel
theorem dX5_clear_28 : decode cX5_clear 28 = .ok (.putfield 31, 3) := by decide +kernel
theorem dX5_clear_31 : decode cX5_clear 31 = .ok (.aload_n 0, 1) := by decide +kernel
theorem dX5_clear_32 : decode cX5_clear 32 = .ok (.iconst 0, 1) := by decide +kernel
theorem dX5_clear_33 : decode cX5_clear 33 = .ok (.putfield 34, 3) := by decide +kernel
theorem dX5_clear_36 : decode cX5_clear 36 = .ok (.aload_n 0, 1) := by decide +kernel
theorem dX5_clear_37 : decode cX5_clear 37 = .ok (.iconst (-1), 1) := by decide +kernel
theorem dX5_clear_38 : decode cX5_clear 38 = .ok (.putfield 37, 3) := by decide +kernel
theorem dX5_clear_41 : decode cX5_clear 41 = .ok (.aload_n 0, 1) := by decide +kernel
theorem dX5_clear_42 : decode cX5_clear 42 = .ok (.iconst 0, 1) := by decide +kernel
theorem dX5_clear_43 : decode cX5_clear 43 = .ok (.putfield 40, 3) := by decide +kernel
theorem dX5_clear_46 : decode cX5_clear 46 = .ok (.aload_n 0, 1) := by decide +kernel
theorem dX5_clear_47 : decode cX5_clear 47 = .ok (.iconst 0, 1) := by decide +kernel
theorem dX5_clear_48 : decode cX5_clear 48 = .ok (.putfield 43, 3) := by decide +kernel
theorem dX5_clear_51 : decode cX5_clear 51 = .ok (.aload_n 0, 1) := by decide +kernel
theorem dX5_clear_52 : decode cX5_clear 52 = .ok (.iconst 0, 1) := by decide +kernel
theorem dX5_clear_53 : decode cX5_clear 53 = .ok (.putfield 46, 3) := by decide +kernel
theorem dX5_clear_56 : decode cX5_clear 56 = .ok (.aload_n 0, 1) := by decide +kernel
theorem dX5_clear_57 : decode cX5_clear 57 = .ok (.iconst 0, 1) := by decide +kernel
theorem dX5_clear_58 : decode cX5_clear 58 = .ok (.putfield 49, 3) := by decide +kernel
theorem dX5_clear_61 : decode cX5_clear 61 = .ok (.aload_n 0, 1) := by decide +kernel
theorem dX5_clear_62 : decode cX5_clear 62 = .ok (.iconst 0, 1) := by decide +kernel
theorem dX5_clear_63 : decode cX5_clear 63 = .ok (.putfield 53, 3) := by decide +kernel
theorem dX5_clear_66 : decode cX5_clear 66 = .ok (.aload_n 0, 1) := by decide +kernel
theorem dX5_clear_67 : decode cX5_clear 67 = .ok (.iconst 0, 1) := by decide +kernel
theorem dX5_clear_68 : decode cX5_clear 68 = .ok (.putfield 56, 3) := by decide +kernel
theorem dX5_clear_71 : decode cX5_clear 71 = .ok (.aload_n 0, 1) := by decide +kernel
theorem dX5_clear_72 : decode cX5_clear 72 = .ok (.iconst 0, 1) := by decide +kernel
theorem dX5_clear_73 : decode cX5_clear 73 = .ok (.putfield 59, 3) := by decide +kernel
theorem dX5_clear_76 : decode cX5_clear 76 = .ok (.return_, 1) := by decide +kernel
theorem dX5_steers_0 : decode cX5_steers 0 = .ok (.aload_n 0, 1) := by decide +kernel
theorem dX5_steers_1 : decode cX5_steers 1 = .ok (.getfield 27, 3) := by decide +kernel
theorem dX5_steers_4 : decode cX5_steers 4 = .ok (.bipush 58, 2) := by decide +kernel
theorem dX5_steers_6 : decode cX5_steers 6 = .ok (.if_icmp .eq 39, 3) := by decide +kernel
theorem dX5_steers_9 : decode cX5_steers 9 = .ok (.aload_n 0, 1) := by decide +kernel
theorem dX5_steers_10 : decode cX5_steers 10 = .ok (.getfield 27, 3) := by decide +kernel
theorem dX5_steers_13 : decode cX5_steers 13 = .ok (.bipush 98, 2) := by decide +kernel
theorem dX5_steers_15 : decode cX5_steers 15 = .ok (.if_icmp .eq 30, 3) := by decide +kernel
theorem dX5_steers_18 : decode cX5_steers 18 = .ok (.aload_n 0, 1) := by decide +kernel
theorem dX5_steers_19 : decode cX5_steers 19 = .ok (.getfield 27, 3) := by decide +kernel
theorem dX5_steers_22 : decode cX5_steers 22 = .ok (.bipush 84, 2) := by decide +kernel
theorem dX5_steers_24 : decode cX5_steers 24 = .ok (.if_icmp .eq 21, 3) := by decide +kernel
theorem dX5_steers_27 : decode cX5_steers 27 = .ok (.aload_n 0, 1) := by decide +kernel
theorem dX5_steers_28 : decode cX5_steers 28 = .ok (.getfield 27, 3) := by decide +kernel
theorem dX5_steers_31 : decode cX5_steers 31 = .ok (.bipush 113, 2) := by decide +kernel
theorem dX5_steers_33 : decode cX5_steers 33 = .ok (.if_icmp .eq 12, 3) := by decide +kernel
theorem dX5_steers_36 : decode cX5_steers 36 = .ok (.aload_n 0, 1) := by decide +kernel
theorem dX5_steers_37 : decode cX5_steers 37 = .ok (.getfield 27, 3) := by decide +kernel
theorem dX5_steers_40 : decode cX5_steers 40 = .ok (.bipush 78, 2) := by decide +kernel
theorem dX5_steers_42 : decode cX5_steers 42 = .ok (.if_icmp .ne 7, 3) := by decide +kernel
theorem dX5_steers_45 : decode cX5_steers 45 = .ok (.iconst 1, 1) := by decide +kernel
theorem dX5_steers_46 : decode cX5_steers 46 = .ok (.goto 4, 3) := by decide +kernel
theorem dX5_steers_49 : decode cX5_steers 49 = .ok (.iconst 0, 1) := by decide +kernel
theorem dX5_steers_50 : decode cX5_steers 50 = .ok (.ireturn, 1) := by decide +kernel
theorem dX5_isDeed_0 : decode cX5_isDeed 0 = .ok (.aload_n 0, 1) := by decide +kernel
theorem dX5_isDeed_1 : decode cX5_isDeed 1 = .ok (.getfield 27, 3) := by decide +kernel
theorem dX5_isDeed_4 : decode cX5_isDeed 4 = .ok (.bipush 58, 2) := by decide +kernel
theorem dX5_isDeed_6 : decode cX5_isDeed 6 = .ok (.if_icmp .eq 34, 3) := by decide +kernel
theorem dX5_isDeed_9 : decode cX5_isDeed 9 = .ok (.aload_n 0, 1) := by decide +kernel
theorem dX5_isDeed_10 : decode cX5_isDeed 10 = .ok (.getfield 27, 3) := by decide +kernel
theorem dX5_isDeed_13 : decode cX5_isDeed 13 = .ok (.bipush 98, 2) := by decide +kernel
theorem dX5_isDeed_15 : decode cX5_isDeed 15 = .ok (.if_icmp .eq 25, 3) := by decide +kernel
theorem dX5_isDeed_18 : decode cX5_isDeed 18 = .ok (.aload_n 0, 1) := by decide +kernel
theorem dX5_isDeed_19 : decode cX5_isDeed 19 = .ok (.getfield 27, 3) := by decide +kernel
theorem dX5_isDeed_22 : decode cX5_isDeed 22 = .ok (.bipush 84, 2) := by decide +kernel
theorem dX5_isDeed_24 : decode cX5_isDeed 24 = .ok (.if_icmp .eq 16, 3) := by decide +kernel
theorem dX5_isDeed_27 : decode cX5_isDeed 27 = .ok (.aload_n 0, 1) := by decide +kernel
theorem dX5_isDeed_28 : decode cX5_isDeed 28 = .ok (.getfield 27, 3) := by decide +kernel
theorem dX5_isDeed_31 : decode cX5_isDeed 31 = .ok (.bipush 113, 2) := by decide +kernel
theorem dX5_isDeed_33 : decode cX5_isDeed 33 = .ok (.if_icmp .eq 7, 3) := by decide +kernel
theorem dX5_isDeed_36 : decode cX5_isDeed 36 = .ok (.iconst 1, 1) := by decide +kernel
theorem dX5_isDeed_37 : decode cX5_isDeed 37 = .ok (.goto 4, 3) := by decide +kernel
theorem dX5_isDeed_40 : decode cX5_isDeed 40 = .ok (.iconst 0, 1) := by decide +kernel
theorem dX5_isDeed_41 : decode cX5_isDeed 41 = .ok (.ireturn, 1) := by decide +kernel
theorem dX5_holdsOthers_0 : decode cX5_holdsOthers 0 = .ok (.aload_n 0, 1) := by decide +kernel
theorem dX5_holdsOthers_1 : decode cX5_holdsOthers 1 = .ok (.getfield 27, 3) := by decide +kernel
theorem dX5_holdsOthers_4 : decode cX5_holdsOthers 4 = .ok (.bipush 103, 2) := by decide +kernel
theorem dX5_holdsOthers_6 : decode cX5_holdsOthers 6 = .ok (.if_icmp .eq 21, 3) := by decide +kernel
theorem dX5_holdsOthers_9 : decode cX5_holdsOthers 9 = .ok (.aload_n 0, 1) := by decide +kernel
theorem dX5_holdsOthers_10 : decode cX5_holdsOthers 10 = .ok (.getfield 27, 3) := by decide +kernel
theorem dX5_holdsOthers_13 : decode cX5_holdsOthers 13 = .ok (.bipush 71, 2) := by decide +kernel
theorem dX5_holdsOthers_15 : decode cX5_holdsOthers 15 = .ok (.if_icmp .eq 12, 3) := by decide +kernel
theorem dX5_holdsOthers_18 : decode cX5_holdsOthers 18 = .ok (.aload_n 0, 1) := by decide +kernel
theorem dX5_holdsOthers_19 : decode cX5_holdsOthers 19 = .ok (.getfield 27, 3) := by decide +kernel
theorem dX5_holdsOthers_22 : decode cX5_holdsOthers 22 = .ok (.bipush 123, 2) := by decide +kernel
theorem dX5_holdsOthers_24 : decode cX5_holdsOthers 24 = .ok (.if_icmp .ne 7, 3) := by decide +kernel
theorem dX5_holdsOthers_27 : decode cX5_holdsOthers 27 = .ok (.iconst 1, 1) := by decide +kernel
theorem dX5_holdsOthers_28 : decode cX5_holdsOthers 28 = .ok (.goto 4, 3) := by decide +kernel
theorem dX5_holdsOthers_31 : decode cX5_holdsOthers 31 = .ok (.iconst 0, 1) := by decide +kernel
theorem dX5_holdsOthers_32 : decode cX5_holdsOthers 32 = .ok (.ireturn, 1) := by decide +kernel
theorem dX5_takesAll_0 : decode cX5_takesAll 0 = .ok (.aload_n 0, 1) := by decide +kernel
theorem dX5_takesAll_1 : decode cX5_takesAll 1 = .ok (.getfield 27, 3) := by decide +kernel
theorem dX5_takesAll_4 : decode cX5_takesAll 4 = .ok (.bipush 103, 2) := by decide +kernel
theorem dX5_takesAll_6 : decode cX5_takesAll 6 = .ok (.if_icmp .eq 21, 3) := by decide +kernel
theorem dX5_takesAll_9 : decode cX5_takesAll 9 = .ok (.aload_n 0, 1) := by decide +kernel
theorem dX5_takesAll_10 : decode cX5_takesAll 10 = .ok (.getfield 27, 3) := by decide +kernel
theorem dX5_takesAll_13 : decode cX5_takesAll 13 = .ok (.bipush 71, 2) := by decide +kernel
theorem dX5_takesAll_15 : decode cX5_takesAll 15 = .ok (.if_icmp .eq 12, 3) := by decide +kernel
theorem dX5_takesAll_18 : decode cX5_takesAll 18 = .ok (.aload_n 0, 1) := by decide +kernel
theorem dX5_takesAll_19 : decode cX5_takesAll 19 = .ok (.getfield 27, 3) := by decide +kernel
theorem dX5_takesAll_22 : decode cX5_takesAll 22 = .ok (.bipush 119, 2) := by decide +kernel
theorem dX5_takesAll_24 : decode cX5_takesAll 24 = .ok (.if_icmp .ne 7, 3) := by decide +kernel
theorem dX5_takesAll_27 : decode cX5_takesAll 27 = .ok (.iconst 1, 1) := by decide +kernel
theorem dX5_takesAll_28 : decode cX5_takesAll 28 = .ok (.goto 4, 3) := by decide +kernel
theorem dX5_takesAll_31 : decode cX5_takesAll 31 = .ok (.iconst 0, 1) := by decide +kernel
theorem dX5_takesAll_32 : decode cX5_takesAll 32 = .ok (.ireturn, 1) := by decide +kernel
theorem dX5_mayStandBehindNone_0 : decode cX5_mayStandBehindNone 0 = .ok (.aload_n 0, 1) := by decide +kernel
theorem dX5_mayStandBehindNone_1 : decode cX5_mayStandBehindNone 1 = .ok (.getfield 27, 3) := by decide +kernel
theorem dX5_mayStandBehindNone_4 : decode cX5_mayStandBehindNone 4 = .ok (.bipush 97, 2) := by decide +kernel
theorem dX5_mayStandBehindNone_6 : decode cX5_mayStandBehindNone 6 = .ok (.if_icmp .eq 21, 3) := by decide +kernel
theorem dX5_mayStandBehindNone_9 : decode cX5_mayStandBehindNone 9 = .ok (.aload_n 0, 1) := by decide +kernel
theorem dX5_mayStandBehindNone_10 : decode cX5_mayStandBehindNone 10 = .ok (.getfield 27, 3) := by decide +kernel
theorem dX5_mayStandBehindNone_13 : decode cX5_mayStandBehindNone 13 = .ok (.bipush 114, 2) := by decide +kernel
theorem dX5_mayStandBehindNone_15 : decode cX5_mayStandBehindNone 15 = .ok (.if_icmp .eq 12, 3) := by decide +kernel
theorem dX5_mayStandBehindNone_18 : decode cX5_mayStandBehindNone 18 = .ok (.aload_n 0, 1) := by decide +kernel
theorem dX5_mayStandBehindNone_19 : decode cX5_mayStandBehindNone 19 = .ok (.getfield 27, 3) := by decide +kernel
theorem dX5_mayStandBehindNone_22 : decode cX5_mayStandBehindNone 22 = .ok (.bipush 117, 2) := by decide +kernel
theorem dX5_mayStandBehindNone_24 : decode cX5_mayStandBehindNone 24 = .ok (.if_icmp .ne 22, 3) := by decide +kernel
theorem dX5_mayStandBehindNone_27 : decode cX5_mayStandBehindNone 27 = .ok (.aload_n 0, 1) := by decide +kernel
theorem dX5_mayStandBehindNone_28 : decode cX5_mayStandBehindNone 28 = .ok (.getfield 31, 3) := by decide +kernel
theorem dX5_mayStandBehindNone_31 : decode cX5_mayStandBehindNone 31 = .ok (.iconst 2, 1) := by decide +kernel
theorem dX5_mayStandBehindNone_32 : decode cX5_mayStandBehindNone 32 = .ok (.if_icmp .eq 10, 3) := by decide +kernel
theorem dX5_mayStandBehindNone_35 : decode cX5_mayStandBehindNone 35 = .ok (.aload_n 0, 1) := by decide +kernel
theorem dX5_mayStandBehindNone_36 : decode cX5_mayStandBehindNone 36 = .ok (.getfield 31, 3) := by decide +kernel
theorem dX5_mayStandBehindNone_39 : decode cX5_mayStandBehindNone 39 = .ok (.ifCond .ne 7, 3) := by decide +kernel
theorem dX5_mayStandBehindNone_42 : decode cX5_mayStandBehindNone 42 = .ok (.iconst 1, 1) := by decide +kernel
theorem dX5_mayStandBehindNone_43 : decode cX5_mayStandBehindNone 43 = .ok (.goto 4, 3) := by decide +kernel
theorem dX5_mayStandBehindNone_46 : decode cX5_mayStandBehindNone 46 = .ok (.iconst 0, 1) := by decide +kernel
theorem dX5_mayStandBehindNone_47 : decode cX5_mayStandBehindNone 47 = .ok (.ireturn, 1) := by decide +kernel
theorem dX5_isNotByLine_0 : decode cX5_isNotByLine 0 = .ok (.aload_n 0, 1) := by decide +kernel
theorem dX5_isNotByLine_1 : decode cX5_isNotByLine 1 = .ok (.getfield 27, 3) := by decide +kernel
theorem dX5_isNotByLine_4 : decode cX5_isNotByLine 4 = .ok (.bipush 108, 2) := by decide +kernel
theorem dX5_isNotByLine_6 : decode cX5_isNotByLine 6 = .ok (.if_icmp .eq 39, 3) := by decide +kernel
theorem dX5_isNotByLine_9 : decode cX5_isNotByLine 9 = .ok (.aload_n 0, 1) := by decide +kernel
theorem dX5_isNotByLine_10 : decode cX5_isNotByLine 10 = .ok (.getfield 27, 3) := by decide +kernel
theorem dX5_isNotByLine_13 : decode cX5_isNotByLine 13 = .ok (.bipush 111, 2) := by decide +kernel
theorem dX5_isNotByLine_15 : decode cX5_isNotByLine 15 = .ok (.if_icmp .eq 30, 3) := by decide +kernel
theorem dX5_isNotByLine_18 : decode cX5_isNotByLine 18 = .ok (.aload_n 0, 1) := by decide +kernel
theorem dX5_isNotByLine_19 : decode cX5_isNotByLine 19 = .ok (.getfield 27, 3) := by decide +kernel
theorem dX5_isNotByLine_22 : decode cX5_isNotByLine 22 = .ok (.bipush 79, 2) := by decide +kernel
theorem dX5_isNotByLine_24 : decode cX5_isNotByLine 24 = .ok (.if_icmp .eq 21, 3) := by decide +kernel
theorem dX5_isNotByLine_27 : decode cX5_isNotByLine 27 = .ok (.aload_n 0, 1) := by decide +kernel
theorem dX5_isNotByLine_28 : decode cX5_isNotByLine 28 = .ok (.getfield 27, 3) := by decide +kernel
theorem dX5_isNotByLine_31 : decode cX5_isNotByLine 31 = .ok (.bipush 109, 2) := by decide +kernel
theorem dX5_isNotByLine_33 : decode cX5_isNotByLine 33 = .ok (.if_icmp .eq 12, 3) := by decide +kernel
theorem dX5_isNotByLine_36 : decode cX5_isNotByLine 36 = .ok (.aload_n 0, 1) := by decide +kernel
theorem dX5_isNotByLine_37 : decode cX5_isNotByLine 37 = .ok (.getfield 27, 3) := by decide +kernel
theorem dX5_isNotByLine_40 : decode cX5_isNotByLine 40 = .ok (.bipush 116, 2) := by decide +kernel
theorem dX5_isNotByLine_42 : decode cX5_isNotByLine 42 = .ok (.if_icmp .ne 5, 3) := by decide +kernel
theorem dX5_isNotByLine_45 : decode cX5_isNotByLine 45 = .ok (.iconst 1, 1) := by decide +kernel
theorem dX5_isNotByLine_46 : decode cX5_isNotByLine 46 = .ok (.ireturn, 1) := by decide +kernel
theorem dX5_isNotByLine_47 : decode cX5_isNotByLine 47 = .ok (.aload_n 0, 1) := by decide +kernel
theorem dX5_isNotByLine_48 : decode cX5_isNotByLine 48 = .ok (.getfield 31, 3) := by decide +kernel
theorem dX5_isNotByLine_51 : decode cX5_isNotByLine 51 = .ok (.iconst 2, 1) := by decide +kernel
theorem dX5_isNotByLine_52 : decode cX5_isNotByLine 52 = .ok (.if_icmp .lt 13, 3) := by decide +kernel
theorem dX5_isNotByLine_55 : decode cX5_isNotByLine 55 = .ok (.aload_n 0, 1) := by decide +kernel
theorem dX5_isNotByLine_56 : decode cX5_isNotByLine 56 = .ok (.getfield 12, 3) := by decide +kernel
theorem dX5_isNotByLine_59 : decode cX5_isNotByLine 59 = .ok (.invokevirtual 62, 3) := by decide +kernel
theorem dX5_isNotByLine_62 : decode cX5_isNotByLine 62 = .ok (.ifCond .ne 21, 3) := by decide +kernel
theorem dX5_isNotByLine_65 : decode cX5_isNotByLine 65 = .ok (.aload_n 0, 1) := by decide +kernel
theorem dX5_isNotByLine_66 : decode cX5_isNotByLine 66 = .ok (.getfield 31, 3) := by decide +kernel
theorem dX5_isNotByLine_69 : decode cX5_isNotByLine 69 = .ok (.iconst 3, 1) := by decide +kernel
theorem dX5_isNotByLine_70 : decode cX5_isNotByLine 70 = .ok (.if_icmp .ne 17, 3) := by decide +kernel
theorem dX5_isNotByLine_73 : decode cX5_isNotByLine 73 = .ok (.aload_n 0, 1) := by decide +kernel
theorem dX5_isNotByLine_74 : decode cX5_isNotByLine 74 = .ok (.getfield 18, 3) := by decide +kernel
theorem dX5_isNotByLine_77 : decode cX5_isNotByLine 77 = .ok (.invokevirtual 62, 3) := by decide +kernel
theorem dX5_isNotByLine_80 : decode cX5_isNotByLine 80 = .ok (.ifCond .eq 7, 3) := by decide +kernel
theorem dX5_isNotByLine_83 : decode cX5_isNotByLine 83 = .ok (.iconst 1, 1) := by decide +kernel
theorem dX5_isNotByLine_84 : decode cX5_isNotByLine 84 = .ok (.goto 4, 3) := by decide +kernel
theorem dX5_isNotByLine_87 : decode cX5_isNotByLine 87 = .ok (.iconst 0, 1) := by decide +kernel
theorem dX5_isNotByLine_88 : decode cX5_isNotByLine 88 = .ok (.ireturn, 1) := by decide +kernel
theorem dX6_init_0 : decode cX6_init 0 = .ok (.aload_n 0, 1) := by decide +kernel
theorem dX6_init_1 : decode cX6_init 1 = .ok (.invokespecial 3, 3) := by decide +kernel
theorem dX6_init_4 : decode cX6_init 4 = .ok (.aload_n 0, 1) := by decide +kernel
theorem dX6_init_5 : decode cX6_init 5 = .ok (.bipush 60, 2) := by decide +kernel
theorem dX6_init_7 : decode cX6_init 7 = .ok (.anewarray 9, 3) := by decide +kernel
theorem dX6_init_10 : decode cX6_init 10 = .ok (.putfield 11, 3) := by decide +kernel
theorem dX6_init_13 : decode cX6_init 13 = .ok (.iconst 0, 1) := by decide +kernel
theorem dX6_init_14 : decode cX6_init 14 = .ok (.istore_n 1, 1) := by decide +kernel
theorem dX6_init_15 : decode cX6_init 15 = .ok (.iload_n 1, 1) := by decide +kernel
theorem dX6_init_16 : decode cX6_init 16 = .ok (.bipush 60, 2) := by decide +kernel
theorem dX6_init_18 : decode cX6_init 18 = .ok (.if_icmp .ge 22, 3) := by decide +kernel
theorem dX6_init_21 : decode cX6_init 21 = .ok (.aload_n 0, 1) := by decide +kernel
theorem dX6_init_22 : decode cX6_init 22 = .ok (.getfield 11, 3) := by decide +kernel
theorem dX6_init_25 : decode cX6_init 25 = .ok (.iload_n 1, 1) := by decide +kernel
theorem dX6_init_26 : decode cX6_init 26 = .ok (.new 9, 3) := by decide +kernel
theorem dX6_init_29 : decode cX6_init 29 = .ok (.dup, 1) := by decide +kernel
theorem dX6_init_30 : decode cX6_init 30 = .ok (.invokespecial 17, 3) := by decide +kernel
theorem dX6_init_33 : decode cX6_init 33 = .ok (.aastore, 1) := by decide +kernel
theorem dX6_init_34 : decode cX6_init 34 = .ok (.iinc 1 1, 3) := by decide +kernel
theorem dX6_init_37 : decode cX6_init 37 = .ok (.goto (-22), 3) := by decide +kernel
theorem dX6_init_40 : decode cX6_init 40 = .ok (.aload_n 0, 1) := by decide +kernel
theorem dX6_init_41 : decode cX6_init 41 = .ok (.bipush 120, 2) := by decide +kernel
theorem dX6_init_43 : decode cX6_init 43 = .ok (.newarray .int, 2) := by decide +kernel
theorem dX6_init_45 : decode cX6_init 45 = .ok (.putfield 18, 3) := by decide +kernel
theorem dX6_init_48 : decode cX6_init 48 = .ok (.aload_n 0, 1) := by decide +kernel
theorem dX6_init_49 : decode cX6_init 49 = .ok (.bipush 120, 2) := by decide +kernel
theorem dX6_init_51 : decode cX6_init 51 = .ok (.newarray .long, 2) := by decide +kernel
theorem dX6_init_53 : decode cX6_init 53 = .ok (.putfield 22, 3) := by decide +kernel
theorem dX6_init_56 : decode cX6_init 56 = .ok (.aload_n 0, 1) := by decide +kernel
theorem dX6_init_57 : decode cX6_init 57 = .ok (.iconst 0, 1) := by decide +kernel
theorem dX6_init_58 : decode cX6_init 58 = .ok (.newarray .byte, 2) := by decide +kernel
theorem dX6_init_60 : decode cX6_init 60 = .ok (.putfield 26, 3) := by decide +kernel
theorem dX6_init_63 : decode cX6_init 63 = .ok (.return_, 1) := by decide +kernel
theorem dX6_orderAt_0 : decode cX6_orderAt 0 = .ok (.iload_n 1, 1) := by decide +kernel
theorem dX6_orderAt_1 : decode cX6_orderAt 1 = .ok (.ifCond .lt 29, 3) := by decide +kernel
theorem dX6_orderAt_4 : decode cX6_orderAt 4 = .ok (.iload_n 1, 1) := by decide +kernel
theorem dX6_orderAt_5 : decode cX6_orderAt 5 = .ok (.aload_n 0, 1) := by decide +kernel
theorem dX6_orderAt_6 : decode cX6_orderAt 6 = .ok (.getfield 30, 3) := by decide +kernel
theorem dX6_orderAt_9 : decode cX6_orderAt 9 = .ok (.if_icmp .ge 21, 3) := by decide +kernel
theorem dX6_orderAt_12 : decode cX6_orderAt 12 = .ok (.iload_n 1, 1) := by decide +kernel
theorem dX6_orderAt_13 : decode cX6_orderAt 13 = .ok (.aload_n 0, 1) := by decide +kernel
theorem dX6_orderAt_14 : decode cX6_orderAt 14 = .ok (.getfield 11, 3) := by decide +kernel
theorem dX6_orderAt_17 : decode cX6_orderAt 17 = .ok (.arraylength, 1) := by decide +kernel
theorem dX6_orderAt_18 : decode cX6_orderAt 18 = .ok (.if_icmp .ge 12, 3) := by decide +kernel
theorem dX6_orderAt_21 : decode cX6_orderAt 21 = .ok (.aload_n 0, 1) := by decide +kernel
theorem dX6_orderAt_22 : decode cX6_orderAt 22 = .ok (.getfield 11, 3) := by decide +kernel
theorem dX6_orderAt_25 : decode cX6_orderAt 25 = .ok (.iload_n 1, 1) := by decide +kernel
theorem dX6_orderAt_26 : decode cX6_orderAt 26 = .ok (.aaload, 1) := by decide +kernel
theorem dX6_orderAt_27 : decode cX6_orderAt 27 = .ok (.goto 4, 3) := by decide +kernel
theorem dX6_orderAt_30 : decode cX6_orderAt 30 = .ok (.aconst_null, 1) := by decide +kernel
theorem dX6_orderAt_31 : decode cX6_orderAt 31 = .ok (.areturn, 1) := by decide +kernel
theorem dX6_signAt_0 : decode cX6_signAt 0 = .ok (.iload_n 1, 1) := by decide +kernel
theorem dX6_signAt_1 : decode cX6_signAt 1 = .ok (.ifCond .lt 29, 3) := by decide +kernel
theorem dX6_signAt_4 : decode cX6_signAt 4 = .ok (.iload_n 1, 1) := by decide +kernel
theorem dX6_signAt_5 : decode cX6_signAt 5 = .ok (.aload_n 0, 1) := by decide +kernel
theorem dX6_signAt_6 : decode cX6_signAt 6 = .ok (.getfield 34, 3) := by decide +kernel
theorem dX6_signAt_9 : decode cX6_signAt 9 = .ok (.if_icmp .ge 21, 3) := by decide +kernel
theorem dX6_signAt_12 : decode cX6_signAt 12 = .ok (.iload_n 1, 1) := by decide +kernel
theorem dX6_signAt_13 : decode cX6_signAt 13 = .ok (.aload_n 0, 1) := by decide +kernel
theorem dX6_signAt_14 : decode cX6_signAt 14 = .ok (.getfield 26, 3) := by decide +kernel
theorem dX6_signAt_17 : decode cX6_signAt 17 = .ok (.arraylength, 1) := by decide +kernel
theorem dX6_signAt_18 : decode cX6_signAt 18 = .ok (.if_icmp .ge 12, 3) := by decide +kernel
theorem dX6_signAt_21 : decode cX6_signAt 21 = .ok (.aload_n 0, 1) := by decide +kernel
theorem dX6_signAt_22 : decode cX6_signAt 22 = .ok (.getfield 26, 3) := by decide +kernel
theorem dX6_signAt_25 : decode cX6_signAt 25 = .ok (.iload_n 1, 1) := by decide +kernel
theorem dX6_signAt_26 : decode cX6_signAt 26 = .ok (.baload, 1) := by decide +kernel
theorem dX6_signAt_27 : decode cX6_signAt 27 = .ok (.goto 4, 3) := by decide +kernel
theorem dX6_signAt_30 : decode cX6_signAt 30 = .ok (.iconst (-1), 1) := by decide +kernel
theorem dX6_signAt_31 : decode cX6_signAt 31 = .ok (.ireturn, 1) := by decide +kernel
theorem dX6_begin_0 : decode cX6_begin 0 = .ok (.aload_n 0, 1) := by decide +kernel
theorem dX6_begin_1 : decode cX6_begin 1 = .ok (.aload_n 1, 1) := by decide +kernel
theorem dX6_begin_2 : decode cX6_begin 2 = .ok (.putfield 26, 3) := by decide +kernel
theorem dX6_begin_5 : decode cX6_begin 5 = .ok (.aload_n 0, 1) := by decide +kernel
theorem dX6_begin_6 : decode cX6_begin 6 = .ok (.iload_n 2, 1) := by decide +kernel
theorem dX6_begin_7 : decode cX6_begin 7 = .ok (.aload_n 1, 1) := by decide +kernel
theorem dX6_begin_8 : decode cX6_begin 8 = .ok (.arraylength, 1) := by decide +kernel
theorem dX6_begin_9 : decode cX6_begin 9 = .ok (.invokestatic 37, 3) := by decide +kernel
theorem dX6_begin_12 : decode cX6_begin 12 = .ok (.putfield 34, 3) := by decide +kernel
theorem dX6_begin_15 : decode cX6_begin 15 = .ok (.aload_n 0, 1) := by decide +kernel
theorem dX6_begin_16 : decode cX6_begin 16 = .ok (.iconst 0, 1) := by decide +kernel
theorem dX6_begin_17 : decode cX6_begin 17 = .ok (.putfield 43, 3) := by decide +kernel
theorem dX6_begin_20 : decode cX6_begin 20 = .ok (.aload_n 0, 1) := by decide +kernel
theorem dX6_begin_21 : decode cX6_begin 21 = .ok (.iconst 0, 1) := by decide +kernel
theorem dX6_begin_22 : decode cX6_begin 22 = .ok (.putfield 30, 3) := by decide +kernel
theorem dX6_begin_25 : decode cX6_begin 25 = .ok (.aload_n 0, 1) := by decide +kernel
theorem dX6_begin_26 : decode cX6_begin 26 = .ok (.iconst 0, 1) := by decide +kernel
theorem dX6_begin_27 : decode cX6_begin 27 = .ok (.putfield 46, 3) := by decide +kernel
theorem dX6_begin_30 : decode cX6_begin 30 = .ok (.return_, 1) := by decide +kernel
theorem dX6_peek_0 : decode cX6_peek 0 = .ok (.aload_n 0, 1) := by decide +kernel
theorem dX6_peek_1 : decode cX6_peek 1 = .ok (.getfield 43, 3) := by decide +kernel
theorem dX6_peek_4 : decode cX6_peek 4 = .ok (.ifCond .lt 38, 3) := by decide +kernel
theorem dX6_peek_7 : decode cX6_peek 7 = .ok (.aload_n 0, 1) := by decide +kernel
theorem dX6_peek_8 : decode cX6_peek 8 = .ok (.getfield 43, 3) := by decide +kernel
theorem dX6_peek_11 : decode cX6_peek 11 = .ok (.aload_n 0, 1) := by decide +kernel
theorem dX6_peek_12 : decode cX6_peek 12 = .ok (.getfield 34, 3) := by decide +kernel
theorem dX6_peek_15 : decode cX6_peek 15 = .ok (.if_icmp .ge 27, 3) := by decide +kernel
theorem dX6_peek_18 : decode cX6_peek 18 = .ok (.aload_n 0, 1) := by decide +kernel
theorem dX6_peek_19 : decode cX6_peek 19 = .ok (.getfield 43, 3) := by decide +kernel
theorem dX6_peek_22 : decode cX6_peek 22 = .ok (.aload_n 0, 1) := by decide +kernel
theorem dX6_peek_23 : decode cX6_peek 23 = .ok (.getfield 26, 3) := by decide +kernel
theorem dX6_peek_26 : decode cX6_peek 26 = .ok (.arraylength, 1) := by decide +kernel
theorem dX6_peek_27 : decode cX6_peek 27 = .ok (.if_icmp .ge 15, 3) := by decide +kernel
theorem dX6_peek_30 : decode cX6_peek 30 = .ok (.aload_n 0, 1) := by decide +kernel
theorem dX6_peek_31 : decode cX6_peek 31 = .ok (.getfield 26, 3) := by decide +kernel
theorem dX6_peek_34 : decode cX6_peek 34 = .ok (.aload_n 0, 1) := by decide +kernel
theorem dX6_peek_35 : decode cX6_peek 35 = .ok (.getfield 43, 3) := by decide +kernel
theorem dX6_peek_38 : decode cX6_peek 38 = .ok (.baload, 1) := by decide +kernel
theorem dX6_peek_39 : decode cX6_peek 39 = .ok (.goto 4, 3) := by decide +kernel
theorem dX6_peek_42 : decode cX6_peek 42 = .ok (.iconst (-1), 1) := by decide +kernel
theorem dX6_peek_43 : decode cX6_peek 43 = .ok (.ireturn, 1) := by decide +kernel
theorem dX6_pass_0 : decode cX6_pass 0 = .ok (.aload_n 0, 1) := by decide +kernel
theorem dX6_pass_1 : decode cX6_pass 1 = .ok (.getfield 43, 3) := by decide +kernel
theorem dX6_pass_4 : decode cX6_pass 4 = .ok (.ifCond .lt 39, 3) := by decide +kernel
theorem dX6_pass_7 : decode cX6_pass 7 = .ok (.aload_n 0, 1) := by decide +kernel
theorem dX6_pass_8 : decode cX6_pass 8 = .ok (.getfield 43, 3) := by decide +kernel
theorem dX6_pass_11 : decode cX6_pass 11 = .ok (.aload_n 0, 1) := by decide +kernel
theorem dX6_pass_12 : decode cX6_pass 12 = .ok (.getfield 34, 3) := by decide +kernel
theorem dX6_pass_15 : decode cX6_pass 15 = .ok (.if_icmp .ge 28, 3) := by decide +kernel
theorem dX6_pass_18 : decode cX6_pass 18 = .ok (.aload_n 0, 1) := by decide +kernel
theorem dX6_pass_19 : decode cX6_pass 19 = .ok (.getfield 43, 3) := by decide +kernel
theorem dX6_pass_22 : decode cX6_pass 22 = .ok (.aload_n 0, 1) := by decide +kernel
theorem dX6_pass_23 : decode cX6_pass 23 = .ok (.getfield 26, 3) := by decide +kernel
theorem dX6_pass_26 : decode cX6_pass 26 = .ok (.arraylength, 1) := by decide +kernel
theorem dX6_pass_27 : decode cX6_pass 27 = .ok (.if_icmp .ge 16, 3) := by decide +kernel
theorem dX6_pass_30 : decode cX6_pass 30 = .ok (.aload_n 0, 1) := by decide +kernel
theorem dX6_pass_31 : decode cX6_pass 31 = .ok (.getfield 26, 3) := by decide +kernel
theorem dX6_pass_34 : decode cX6_pass 34 = .ok (.aload_n 0, 1) := by decide +kernel
theorem dX6_pass_35 : decode cX6_pass 35 = .ok (.getfield 43, 3) := by decide +kernel
theorem dX6_pass_38 : decode cX6_pass 38 = .ok (.baload, 1) := by decide +kernel
theorem dX6_pass_39 : decode cX6_pass 39 = .ok (.iload_n 1, 1) := by decide +kernel
theorem dX6_pass_40 : decode cX6_pass 40 = .ok (.if_icmp .eq 5, 3) := by decide +kernel
theorem dX6_pass_43 : decode cX6_pass 43 = .ok (.iconst 0, 1) := by decide +kernel
theorem dX6_pass_44 : decode cX6_pass 44 = .ok (.ireturn, 1) := by decide +kernel
theorem dX6_pass_45 : decode cX6_pass 45 = .ok (.aload_n 0, 1) := by decide +kernel
theorem dX6_pass_46 : decode cX6_pass 46 = .ok (.dup, 1) := by decide +kernel
theorem dX6_pass_47 : decode cX6_pass 47 = .ok (.getfield 43, 3) := by decide +kernel
theorem dX6_pass_50 : decode cX6_pass 50 = .ok (.iconst 1, 1) := by decide +kernel
theorem dX6_pass_51 : decode cX6_pass 51 = .ok (.iadd, 1) := by decide +kernel
theorem dX6_pass_52 : decode cX6_pass 52 = .ok (.putfield 43, 3) := by decide +kernel
theorem dX6_pass_55 : decode cX6_pass 55 = .ok (.iconst 1, 1) := by decide +kernel
theorem dX6_pass_56 : decode cX6_pass 56 = .ok (.ireturn, 1) := by decide +kernel
theorem dX6_readTapePattern_0 : decode cX6_readTapePattern 0 = .ok (.aload_n 0, 1) := by decide +kernel
theorem dX6_readTapePattern_1 : decode cX6_readTapePattern 1 = .ok (.aload_n 1, 1) := by decide +kernel
theorem dX6_readTapePattern_2 : decode cX6_readTapePattern 2 = .ok (.iload_n 2, 1) := by decide +kernel
theorem dX6_readTapePattern_3 : decode cX6_readTapePattern 3 = .ok (.invokevirtual 49, 3) := by decide +kernel
theorem dX6_readTapePattern_6 : decode cX6_readTapePattern 6 = .ok (.aload_n 0, 1) := by decide +kernel
theorem dX6_readTapePattern_7 : decode cX6_readTapePattern 7 = .ok (.invokevirtual 53, 3) := by decide +kernel
theorem dX6_readTapePattern_10 : decode cX6_readTapePattern 10 = .ok (.iconst (-1), 1) := by decide +kernel
theorem dX6_readTapePattern_11 : decode cX6_readTapePattern 11 = .ok (.if_icmp .eq 14, 3) := by decide +kernel
theorem dX6_readTapePattern_14 : decode cX6_readTapePattern 14 = .ok (.aload_n 0, 1) := by decide +kernel
theorem dX6_readTapePattern_15 : decode cX6_readTapePattern 15 = .ok (.getfield 43, 3) := by decide +kernel
theorem dX6_readTapePattern_18 : decode cX6_readTapePattern 18 = .ok (.aload_n 0, 1) := by decide +kernel
theorem dX6_readTapePattern_19 : decode cX6_readTapePattern 19 = .ok (.getfield 34, 3) := by decide +kernel
theorem dX6_readTapePattern_22 : decode cX6_readTapePattern 22 = .ok (.if_icmp .ge 10, 3) := by decide +kernel
theorem dX6_readTapePattern_25 : decode cX6_readTapePattern 25 = .ok (.aload_n 0, 1) := by decide +kernel
theorem dX6_readTapePattern_26 : decode cX6_readTapePattern 26 = .ok (.getfield 43, 3) := by decide +kernel
theorem dX6_readTapePattern_29 : decode cX6_readTapePattern 29 = .ok (.goto 4, 3) := by decide +kernel
theorem dX6_readTapePattern_32 : decode cX6_readTapePattern 32 = .ok (.iconst (-1), 1) := by decide +kernel
theorem dX6_readTapePattern_33 : decode cX6_readTapePattern 33 = .ok (.ireturn, 1) := by decide +kernel
theorem dX6_readOrders_0 : decode cX6_readOrders 0 = .ok (.aload_n 0, 1) := by decide +kernel
theorem dX6_readOrders_1 : decode cX6_readOrders 1 = .ok (.aload_n 1, 1) := by decide +kernel
theorem dX6_readOrders_2 : decode cX6_readOrders 2 = .ok (.iload_n 2, 1) := by decide +kernel
theorem dX6_readOrders_3 : decode cX6_readOrders 3 = .ok (.invokevirtual 49, 3) := by decide +kernel
theorem dX6_readOrders_6 : decode cX6_readOrders 6 = .ok (.aconst_null, 1) := by decide +kernel
theorem dX6_readOrders_7 : decode cX6_readOrders 7 = .ok (.astore_n 3, 1) := by decide +kernel
theorem dX6_readOrders_8 : decode cX6_readOrders 8 = .ok (.iconst 0, 1) := by decide +kernel
theorem dX6_readOrders_9 : decode cX6_readOrders 9 = .ok (.istore 4, 2) := by decide +kernel
theorem dX6_readOrders_11 : decode cX6_readOrders 11 = .ok (.iconst 0, 1) := by decide +kernel
theorem dX6_readOrders_12 : decode cX6_readOrders 12 = .ok (.istore 5, 2) := by decide +kernel
theorem dX6_readOrders_14 : decode cX6_readOrders 14 = .ok (.iload 5, 2) := by decide +kernel
theorem dX6_readOrders_16 : decode cX6_readOrders 16 = .ok (.bipush 60, 2) := by decide +kernel
theorem dX6_readOrders_18 : decode cX6_readOrders 18 = .ok (.if_icmp .gt 155, 3) := by decide +kernel
theorem dX6_readOrders_21 : decode cX6_readOrders 21 = .ok (.aload_n 0, 1) := by decide +kernel
theorem dX6_readOrders_22 : decode cX6_readOrders 22 = .ok (.getfield 30, 3) := by decide +kernel
theorem dX6_readOrders_25 : decode cX6_readOrders 25 = .ok (.istore 6, 2) := by decide +kernel
theorem dX6_readOrders_27 : decode cX6_readOrders 27 = .ok (.aload_n 0, 1) := by decide +kernel
theorem dX6_readOrders_28 : decode cX6_readOrders 28 = .ok (.aload_n 3, 1) := by decide +kernel
theorem dX6_readOrders_29 : decode cX6_readOrders 29 = .ok (.ifnull 7, 3) := by decide +kernel
theorem dX6_readOrders_32 : decode cX6_readOrders 32 = .ok (.iconst 1, 1) := by decide +kernel
theorem dX6_readOrders_33 : decode cX6_readOrders 33 = .ok (.goto 4, 3) := by decide +kernel
theorem dX6_readOrders_36 : decode cX6_readOrders 36 = .ok (.iconst 0, 1) := by decide +kernel
theorem dX6_readOrders_37 : decode cX6_readOrders 37 = .ok (.invokevirtual 57, 3) := by decide +kernel
theorem dX6_readOrders_40 : decode cX6_readOrders 40 = .ok (.ifCond .ne 8, 3) := by decide +kernel
theorem dX6_readOrders_43 : decode cX6_readOrders 43 = .ok (.aload_n 0, 1) := by decide +kernel
theorem dX6_readOrders_44 : decode cX6_readOrders 44 = .ok (.getfield 43, 3) := by decide +kernel
theorem dX6_readOrders_47 : decode cX6_readOrders 47 = .ok (.ireturn, 1) := by decide +kernel
theorem dX6_readOrders_48 : decode cX6_readOrders 48 = .ok (.aload_n 0, 1) := by decide +kernel
theorem dX6_readOrders_49 : decode cX6_readOrders 49 = .ok (.iload 6, 2) := by decide +kernel
theorem dX6_readOrders_51 : decode cX6_readOrders 51 = .ok (.invokevirtual 61, 3) := by decide +kernel
theorem dX6_readOrders_54 : decode cX6_readOrders 54 = .ok (.astore 7, 2) := by decide +kernel
theorem dX6_readOrders_56 : decode cX6_readOrders 56 = .ok (.aload 7, 2) := by decide +kernel
theorem dX6_readOrders_58 : decode cX6_readOrders 58 = .ok (.ifnull 43, 3) := by decide +kernel
theorem dX6_readOrders_61 : decode cX6_readOrders 61 = .ok (.aload 7, 2) := by decide +kernel
theorem dX6_readOrders_63 : decode cX6_readOrders 63 = .ok (.invokevirtual 65, 3) := by decide +kernel
theorem dX6_readOrders_66 : decode cX6_readOrders 66 = .ok (.ifCond .eq 35, 3) := by decide +kernel
theorem dX6_readOrders_69 : decode cX6_readOrders 69 = .ok (.aload 7, 2) := by decide +kernel
theorem dX6_readOrders_71 : decode cX6_readOrders 71 = .ok (.astore_n 3, 1) := by decide +kernel
theorem dX6_readOrders_72 : decode cX6_readOrders 72 = .ok (.aload 7, 2) := by decide +kernel
theorem dX6_readOrders_74 : decode cX6_readOrders 74 = .ok (.getfield 69, 3) := by decide +kernel
theorem dX6_readOrders_77 : decode cX6_readOrders 77 = .ok (.bipush 123, 2) := by decide +kernel
theorem dX6_readOrders_79 : decode cX6_readOrders 79 = .ok (.if_icmp .eq 16, 3) := by decide +kernel
theorem dX6_readOrders_82 : decode cX6_readOrders 82 = .ok (.aload_n 0, 1) := by decide +kernel
theorem dX6_readOrders_83 : decode cX6_readOrders 83 = .ok (.bipush 123, 2) := by decide +kernel
theorem dX6_readOrders_85 : decode cX6_readOrders 85 = .ok (.invokevirtual 72, 3) := by decide +kernel
theorem dX6_readOrders_88 : decode cX6_readOrders 88 = .ok (.ifCond .ne 7, 3) := by decide +kernel
theorem dX6_readOrders_91 : decode cX6_readOrders 91 = .ok (.iconst 1, 1) := by decide +kernel
theorem dX6_readOrders_92 : decode cX6_readOrders 92 = .ok (.goto 4, 3) := by decide +kernel
theorem dX6_readOrders_95 : decode cX6_readOrders 95 = .ok (.iconst 0, 1) := by decide +kernel
theorem dX6_readOrders_96 : decode cX6_readOrders 96 = .ok (.istore 4, 2) := by decide +kernel
theorem dX6_readOrders_98 : decode cX6_readOrders 98 = .ok (.goto 69, 3) := by decide +kernel
theorem dX6_readOrders_101 : decode cX6_readOrders 101 = .ok (.aload_n 3, 1) := by decide +kernel
theorem dX6_readOrders_102 : decode cX6_readOrders 102 = .ok (.ifnull 27, 3) := by decide +kernel
theorem dX6_readOrders_105 : decode cX6_readOrders 105 = .ok (.iload 4, 2) := by decide +kernel
theorem dX6_readOrders_107 : decode cX6_readOrders 107 = .ok (.ifCond .ne 12, 3) := by decide +kernel
theorem dX6_readOrders_110 : decode cX6_readOrders 110 = .ok (.aload_n 0, 1) := by decide +kernel
theorem dX6_readOrders_111 : decode cX6_readOrders 111 = .ok (.bipush 125, 2) := by decide +kernel
theorem dX6_readOrders_113 : decode cX6_readOrders 113 = .ok (.invokevirtual 72, 3) := by decide +kernel
theorem dX6_readOrders_116 : decode cX6_readOrders 116 = .ok (.ifCond .eq 13, 3) := by decide +kernel
theorem dX6_readOrders_119 : decode cX6_readOrders 119 = .ok (.aload_n 3, 1) := by decide +kernel
theorem dX6_readOrders_120 : decode cX6_readOrders 120 = .ok (.aload_n 0, 1) := by decide +kernel
theorem dX6_readOrders_121 : decode cX6_readOrders 121 = .ok (.getfield 30, 3) := by decide +kernel
theorem dX6_readOrders_124 : decode cX6_readOrders 124 = .ok (.putfield 76, 3) := by decide +kernel
theorem dX6_readOrders_127 : decode cX6_readOrders 127 = .ok (.aconst_null, 1) := by decide +kernel
theorem dX6_readOrders_128 : decode cX6_readOrders 128 = .ok (.astore_n 3, 1) := by decide +kernel
theorem dX6_readOrders_129 : decode cX6_readOrders 129 = .ok (.aload_n 0, 1) := by decide +kernel
theorem dX6_readOrders_130 : decode cX6_readOrders 130 = .ok (.getfield 43, 3) := by decide +kernel
theorem dX6_readOrders_133 : decode cX6_readOrders 133 = .ok (.aload_n 0, 1) := by decide +kernel
theorem dX6_readOrders_134 : decode cX6_readOrders 134 = .ok (.getfield 34, 3) := by decide +kernel
theorem dX6_readOrders_137 : decode cX6_readOrders 137 = .ok (.if_icmp .lt 16, 3) := by decide +kernel
theorem dX6_readOrders_140 : decode cX6_readOrders 140 = .ok (.aload_n 3, 1) := by decide +kernel
theorem dX6_readOrders_141 : decode cX6_readOrders 141 = .ok (.ifnonnull 7, 3) := by decide +kernel
theorem dX6_readOrders_144 : decode cX6_readOrders 144 = .ok (.iconst (-1), 1) := by decide +kernel
theorem dX6_readOrders_145 : decode cX6_readOrders 145 = .ok (.goto 7, 3) := by decide +kernel
theorem dX6_readOrders_148 : decode cX6_readOrders 148 = .ok (.aload_n 0, 1) := by decide +kernel
theorem dX6_readOrders_149 : decode cX6_readOrders 149 = .ok (.getfield 34, 3) := by decide +kernel
theorem dX6_readOrders_152 : decode cX6_readOrders 152 = .ok (.ireturn, 1) := by decide +kernel
theorem dX6_readOrders_153 : decode cX6_readOrders 153 = .ok (.aload_n 0, 1) := by decide +kernel
theorem dX6_readOrders_154 : decode cX6_readOrders 154 = .ok (.bipush 59, 2) := by decide +kernel
theorem dX6_readOrders_156 : decode cX6_readOrders 156 = .ok (.invokevirtual 72, 3) := by decide +kernel
theorem dX6_readOrders_159 : decode cX6_readOrders 159 = .ok (.ifCond .ne 8, 3) := by decide +kernel
theorem dX6_readOrders_162 : decode cX6_readOrders 162 = .ok (.aload_n 0, 1) := by decide +kernel
theorem dX6_readOrders_163 : decode cX6_readOrders 163 = .ok (.getfield 43, 3) := by decide +kernel
theorem dX6_readOrders_166 : decode cX6_readOrders 166 = .ok (.ireturn, 1) := by decide +kernel
theorem dX6_readOrders_167 : decode cX6_readOrders 167 = .ok (.iinc 5 1, 3) := by decide +kernel
theorem dX6_readOrders_170 : decode cX6_readOrders 170 = .ok (.goto (-156), 3) := by decide +kernel
theorem dX6_readOrders_173 : decode cX6_readOrders 173 = .ok (.aload_n 0, 1) := by decide +kernel
theorem dX6_readOrders_174 : decode cX6_readOrders 174 = .ok (.getfield 43, 3) := by decide +kernel
theorem dX6_readOrders_177 : decode cX6_readOrders 177 = .ok (.ireturn, 1) := by decide +kernel
theorem dX6_readOrder_0 : decode cX6_readOrder 0 = .ok (.aload_n 0, 1) := by decide +kernel
theorem dX6_readOrder_1 : decode cX6_readOrder 1 = .ok (.getfield 30, 3) := by decide +kernel
theorem dX6_readOrder_4 : decode cX6_readOrder 4 = .ok (.ifCond .lt 27, 3) := by decide +kernel
theorem dX6_readOrder_7 : decode cX6_readOrder 7 = .ok (.aload_n 0, 1) := by decide +kernel
theorem dX6_readOrder_8 : decode cX6_readOrder 8 = .ok (.getfield 30, 3) := by decide +kernel
theorem dX6_readOrder_11 : decode cX6_readOrder 11 = .ok (.aload_n 0, 1) := by decide +kernel
theorem dX6_readOrder_12 : decode cX6_readOrder 12 = .ok (.getfield 11, 3) := by decide +kernel
theorem dX6_readOrder_15 : decode cX6_readOrder 15 = .ok (.arraylength, 1) := by decide +kernel
theorem dX6_readOrder_16 : decode cX6_readOrder 16 = .ok (.if_icmp .ge 15, 3) := by decide +kernel
theorem dX6_readOrder_19 : decode cX6_readOrder 19 = .ok (.aload_n 0, 1) := by decide +kernel
theorem dX6_readOrder_20 : decode cX6_readOrder 20 = .ok (.getfield 11, 3) := by decide +kernel
theorem dX6_readOrder_23 : decode cX6_readOrder 23 = .ok (.aload_n 0, 1) := by decide +kernel
theorem dX6_readOrder_24 : decode cX6_readOrder 24 = .ok (.getfield 30, 3) := by decide +kernel
theorem dX6_readOrder_27 : decode cX6_readOrder 27 = .ok (.aaload, 1) := by decide +kernel
theorem dX6_readOrder_28 : decode cX6_readOrder 28 = .ok (.ifnonnull 5, 3) := by decide +kernel
theorem dX6_readOrder_31 : decode cX6_readOrder 31 = .ok (.iconst 0, 1) := by decide +kernel
theorem dX6_readOrder_32 : decode cX6_readOrder 32 = .ok (.ireturn, 1) := by decide +kernel
theorem dX6_readOrder_33 : decode cX6_readOrder 33 = .ok (.aload_n 0, 1) := by decide +kernel
theorem dX6_readOrder_34 : decode cX6_readOrder 34 = .ok (.getfield 11, 3) := by decide +kernel
theorem dX6_readOrder_37 : decode cX6_readOrder 37 = .ok (.aload_n 0, 1) := by decide +kernel
theorem dX6_readOrder_38 : decode cX6_readOrder 38 = .ok (.getfield 30, 3) := by decide +kernel
theorem dX6_readOrder_41 : decode cX6_readOrder 41 = .ok (.aaload, 1) := by decide +kernel
theorem dX6_readOrder_42 : decode cX6_readOrder 42 = .ok (.astore_n 2, 1) := by decide +kernel
theorem dX6_readOrder_43 : decode cX6_readOrder 43 = .ok (.aload_n 2, 1) := by decide +kernel
theorem dX6_readOrder_44 : decode cX6_readOrder 44 = .ok (.invokevirtual 79, 3) := by decide +kernel
theorem dX6_readOrder_47 : decode cX6_readOrder 47 = .ok (.aload_n 0, 1) := by decide +kernel
theorem dX6_readOrder_48 : decode cX6_readOrder 48 = .ok (.aload_n 2, 1) := by decide +kernel
theorem dX6_readOrder_49 : decode cX6_readOrder 49 = .ok (.invokevirtual 82, 3) := by decide +kernel
theorem dX6_readOrder_52 : decode cX6_readOrder 52 = .ok (.ifCond .eq 12, 3) := by decide +kernel
theorem dX6_readOrder_55 : decode cX6_readOrder 55 = .ok (.aload_n 0, 1) := by decide +kernel
theorem dX6_readOrder_56 : decode cX6_readOrder 56 = .ok (.aload_n 2, 1) := by decide +kernel
theorem dX6_readOrder_57 : decode cX6_readOrder 57 = .ok (.iload_n 1, 1) := by decide +kernel
theorem dX6_readOrder_58 : decode cX6_readOrder 58 = .ok (.invokevirtual 86, 3) := by decide +kernel
theorem dX6_readOrder_61 : decode cX6_readOrder 61 = .ok (.ifCond .ne 5, 3) := by decide +kernel
theorem dX6_readOrder_64 : decode cX6_readOrder 64 = .ok (.iconst 0, 1) := by decide +kernel
theorem dX6_readOrder_65 : decode cX6_readOrder 65 = .ok (.ireturn, 1) := by decide +kernel
theorem dX6_readOrder_66 : decode cX6_readOrder 66 = .ok (.aload_n 0, 1) := by decide +kernel
theorem dX6_readOrder_67 : decode cX6_readOrder 67 = .ok (.dup, 1) := by decide +kernel
theorem dX6_readOrder_68 : decode cX6_readOrder 68 = .ok (.getfield 30, 3) := by decide +kernel
theorem dX6_readOrder_71 : decode cX6_readOrder 71 = .ok (.iconst 1, 1) := by decide +kernel
theorem dX6_readOrder_72 : decode cX6_readOrder 72 = .ok (.iadd, 1) := by decide +kernel
theorem dX6_readOrder_73 : decode cX6_readOrder 73 = .ok (.putfield 30, 3) := by decide +kernel
theorem dX6_readOrder_76 : decode cX6_readOrder 76 = .ok (.aload_n 2, 1) := by decide +kernel
theorem dX6_readOrder_77 : decode cX6_readOrder 77 = .ok (.aload_n 0, 1) := by decide +kernel
theorem dX6_readOrder_78 : decode cX6_readOrder 78 = .ok (.getfield 30, 3) := by decide +kernel
theorem dX6_readOrder_81 : decode cX6_readOrder 81 = .ok (.putfield 76, 3) := by decide +kernel
theorem dX6_readOrder_84 : decode cX6_readOrder 84 = .ok (.iconst 1, 1) := by decide +kernel
theorem dX6_readOrder_85 : decode cX6_readOrder 85 = .ok (.ireturn, 1) := by decide +kernel
theorem dX6_readWhere_0 : decode cX6_readWhere 0 = .ok (.aload_n 0, 1) := by decide +kernel
theorem dX6_readWhere_1 : decode cX6_readWhere 1 = .ok (.bipush 37, 2) := by decide +kernel
theorem dX6_readWhere_3 : decode cX6_readWhere 3 = .ok (.invokevirtual 72, 3) := by decide +kernel
theorem dX6_readWhere_6 : decode cX6_readWhere 6 = .ok (.ifCond .eq 10, 3) := by decide +kernel
theorem dX6_readWhere_9 : decode cX6_readWhere 9 = .ok (.aload_n 1, 1) := by decide +kernel
theorem dX6_readWhere_10 : decode cX6_readWhere 10 = .ok (.iconst 1, 1) := by decide +kernel
theorem dX6_readWhere_11 : decode cX6_readWhere 11 = .ok (.putfield 90, 3) := by decide +kernel
theorem dX6_readWhere_14 : decode cX6_readWhere 14 = .ok (.iconst 1, 1) := by decide +kernel
theorem dX6_readWhere_15 : decode cX6_readWhere 15 = .ok (.ireturn, 1) := by decide +kernel
theorem dX6_readWhere_16 : decode cX6_readWhere 16 = .ok (.aload_n 0, 1) := by decide +kernel
theorem dX6_readWhere_17 : decode cX6_readWhere 17 = .ok (.aload_n 0, 1) := by decide +kernel
theorem dX6_readWhere_18 : decode cX6_readWhere 18 = .ok (.invokevirtual 93, 3) := by decide +kernel
theorem dX6_readWhere_21 : decode cX6_readWhere 21 = .ok (.invokevirtual 96, 3) := by decide +kernel
theorem dX6_readWhere_24 : decode cX6_readWhere 24 = .ok (.ifCond .ne 5, 3) := by decide +kernel
theorem dX6_readWhere_27 : decode cX6_readWhere 27 = .ok (.iconst 1, 1) := by decide +kernel
theorem dX6_readWhere_28 : decode cX6_readWhere 28 = .ok (.ireturn, 1) := by decide +kernel
theorem dX6_readWhere_29 : decode cX6_readWhere 29 = .ok (.aload_n 1, 1) := by decide +kernel
theorem dX6_readWhere_30 : decode cX6_readWhere 30 = .ok (.iconst 2, 1) := by decide +kernel
theorem dX6_readWhere_31 : decode cX6_readWhere 31 = .ok (.putfield 90, 3) := by decide +kernel
theorem dX6_readWhere_34 : decode cX6_readWhere 34 = .ok (.aload_n 0, 1) := by decide +kernel
theorem dX6_readWhere_35 : decode cX6_readWhere 35 = .ok (.aload_n 1, 1) := by decide +kernel
theorem dX6_readWhere_36 : decode cX6_readWhere 36 = .ok (.getfield 99, 3) := by decide +kernel
theorem dX6_readWhere_39 : decode cX6_readWhere 39 = .ok (.invokevirtual 103, 3) := by decide +kernel
theorem dX6_readWhere_42 : decode cX6_readWhere 42 = .ok (.ifCond .ne 5, 3) := by decide +kernel
theorem dX6_readWhere_45 : decode cX6_readWhere 45 = .ok (.iconst 0, 1) := by decide +kernel
theorem dX6_readWhere_46 : decode cX6_readWhere 46 = .ok (.ireturn, 1) := by decide +kernel
theorem dX6_readWhere_47 : decode cX6_readWhere 47 = .ok (.aload_n 0, 1) := by decide +kernel
theorem dX6_readWhere_48 : decode cX6_readWhere 48 = .ok (.bipush 44, 2) := by decide +kernel
theorem dX6_readWhere_50 : decode cX6_readWhere 50 = .ok (.invokevirtual 72, 3) := by decide +kernel
theorem dX6_readWhere_53 : decode cX6_readWhere 53 = .ok (.ifCond .ne 5, 3) := by decide +kernel
theorem dX6_readWhere_56 : decode cX6_readWhere 56 = .ok (.iconst 1, 1) := by decide +kernel
theorem dX6_readWhere_57 : decode cX6_readWhere 57 = .ok (.ireturn, 1) := by decide +kernel
theorem dX6_readWhere_58 : decode cX6_readWhere 58 = .ok (.aload_n 1, 1) := by decide +kernel
theorem dX6_readWhere_59 : decode cX6_readWhere 59 = .ok (.iconst 3, 1) := by decide +kernel
theorem dX6_readWhere_60 : decode cX6_readWhere 60 = .ok (.putfield 90, 3) := by decide +kernel
theorem dX6_readWhere_63 : decode cX6_readWhere 63 = .ok (.aload_n 0, 1) := by decide +kernel
theorem dX6_readWhere_64 : decode cX6_readWhere 64 = .ok (.aload_n 1, 1) := by decide +kernel
theorem dX6_readWhere_65 : decode cX6_readWhere 65 = .ok (.getfield 107, 3) := by decide +kernel
theorem dX6_readWhere_68 : decode cX6_readWhere 68 = .ok (.invokevirtual 103, 3) := by decide +kernel
theorem dX6_readWhere_71 : decode cX6_readWhere 71 = .ok (.ireturn, 1) := by decide +kernel
theorem dX6_beginsAddress_0 : decode cX6_beginsAddress 0 = .ok (.iload_n 1, 1) := by decide +kernel
theorem dX6_beginsAddress_1 : decode cX6_beginsAddress 1 = .ok (.bipush 48, 2) := by decide +kernel
theorem dX6_beginsAddress_3 : decode cX6_beginsAddress 3 = .ok (.if_icmp .lt 9, 3) := by decide +kernel
theorem dX6_beginsAddress_6 : decode cX6_beginsAddress 6 = .ok (.iload_n 1, 1) := by decide +kernel
theorem dX6_beginsAddress_7 : decode cX6_beginsAddress 7 = .ok (.bipush 57, 2) := by decide +kernel
theorem dX6_beginsAddress_9 : decode cX6_beginsAddress 9 = .ok (.if_icmp .le 33, 3) := by decide +kernel
theorem dX6_beginsAddress_12 : decode cX6_beginsAddress 12 = .ok (.iload_n 1, 1) := by decide +kernel
theorem dX6_beginsAddress_13 : decode cX6_beginsAddress 13 = .ok (.bipush 46, 2) := by decide +kernel
theorem dX6_beginsAddress_15 : decode cX6_beginsAddress 15 = .ok (.if_icmp .eq 27, 3) := by decide +kernel
theorem dX6_beginsAddress_18 : decode cX6_beginsAddress 18 = .ok (.iload_n 1, 1) := by decide +kernel
theorem dX6_beginsAddress_19 : decode cX6_beginsAddress 19 = .ok (.bipush 36, 2) := by decide +kernel
theorem dX6_beginsAddress_21 : decode cX6_beginsAddress 21 = .ok (.if_icmp .eq 21, 3) := by decide +kernel
theorem dX6_beginsAddress_24 : decode cX6_beginsAddress 24 = .ok (.iload_n 1, 1) := by decide +kernel
theorem dX6_beginsAddress_25 : decode cX6_beginsAddress 25 = .ok (.bipush 39, 2) := by decide +kernel
theorem dX6_beginsAddress_27 : decode cX6_beginsAddress 27 = .ok (.if_icmp .eq 15, 3) := by decide +kernel
theorem dX6_beginsAddress_30 : decode cX6_beginsAddress 30 = .ok (.iload_n 1, 1) := by decide +kernel
theorem dX6_beginsAddress_31 : decode cX6_beginsAddress 31 = .ok (.bipush 47, 2) := by decide +kernel
theorem dX6_beginsAddress_33 : decode cX6_beginsAddress 33 = .ok (.if_icmp .eq 9, 3) := by decide +kernel
theorem dX6_beginsAddress_36 : decode cX6_beginsAddress 36 = .ok (.iload_n 1, 1) := by decide +kernel
theorem dX6_beginsAddress_37 : decode cX6_beginsAddress 37 = .ok (.bipush 63, 2) := by decide +kernel
theorem dX6_beginsAddress_39 : decode cX6_beginsAddress 39 = .ok (.if_icmp .ne 7, 3) := by decide +kernel
theorem dX6_beginsAddress_42 : decode cX6_beginsAddress 42 = .ok (.iconst 1, 1) := by decide +kernel
theorem dX6_beginsAddress_43 : decode cX6_beginsAddress 43 = .ok (.goto 4, 3) := by decide +kernel
theorem dX6_beginsAddress_46 : decode cX6_beginsAddress 46 = .ok (.iconst 0, 1) := by decide +kernel
theorem dX6_beginsAddress_47 : decode cX6_beginsAddress 47 = .ok (.ireturn, 1) := by decide +kernel
theorem dX6_readAddress_0 : decode cX6_readAddress 0 = .ok (.aload_n 0, 1) := by decide +kernel
theorem dX6_readAddress_1 : decode cX6_readAddress 1 = .ok (.invokevirtual 93, 3) := by decide +kernel
theorem dX6_readAddress_4 : decode cX6_readAddress 4 = .ok (.istore_n 2, 1) := by decide +kernel
theorem dX6_readAddress_5 : decode cX6_readAddress 5 = .ok (.aload_n 0, 1) := by decide +kernel
theorem dX6_readAddress_6 : decode cX6_readAddress 6 = .ok (.iload_n 2, 1) := by decide +kernel
theorem dX6_readAddress_7 : decode cX6_readAddress 7 = .ok (.invokevirtual 96, 3) := by decide +kernel
theorem dX6_readAddress_10 : decode cX6_readAddress 10 = .ok (.ifCond .ne 5, 3) := by decide +kernel
theorem dX6_readAddress_13 : decode cX6_readAddress 13 = .ok (.iconst 0, 1) := by decide +kernel
theorem dX6_readAddress_14 : decode cX6_readAddress 14 = .ok (.ireturn, 1) := by decide +kernel
theorem dX6_readAddress_15 : decode cX6_readAddress 15 = .ok (.aload_n 1, 1) := by decide +kernel
theorem dX6_readAddress_16 : decode cX6_readAddress 16 = .ok (.iload_n 2, 1) := by decide +kernel
theorem dX6_readAddress_17 : decode cX6_readAddress 17 = .ok (.putfield 110, 3) := by decide +kernel
theorem dX6_readAddress_20 : decode cX6_readAddress 20 = .ok (.iload_n 2, 1) := by decide +kernel
theorem dX6_readAddress_21 : decode cX6_readAddress 21 = .ok (.bipush 48, 2) := by decide +kernel
theorem dX6_readAddress_23 : decode cX6_readAddress 23 = .ok (.if_icmp .lt 26, 3) := by decide +kernel
theorem dX6_readAddress_26 : decode cX6_readAddress 26 = .ok (.iload_n 2, 1) := by decide +kernel
theorem dX6_readAddress_27 : decode cX6_readAddress 27 = .ok (.bipush 57, 2) := by decide +kernel
theorem dX6_readAddress_29 : decode cX6_readAddress 29 = .ok (.if_icmp .gt 20, 3) := by decide +kernel
theorem dX6_readAddress_32 : decode cX6_readAddress 32 = .ok (.aload_n 1, 1) := by decide +kernel
theorem dX6_readAddress_33 : decode cX6_readAddress 33 = .ok (.bipush 48, 2) := by decide +kernel
theorem dX6_readAddress_35 : decode cX6_readAddress 35 = .ok (.putfield 110, 3) := by decide +kernel
theorem dX6_readAddress_38 : decode cX6_readAddress 38 = .ok (.aload_n 1, 1) := by decide +kernel
theorem dX6_readAddress_39 : decode cX6_readAddress 39 = .ok (.aload_n 0, 1) := by decide +kernel
theorem dX6_readAddress_40 : decode cX6_readAddress 40 = .ok (.invokevirtual 115, 3) := by decide +kernel
theorem dX6_readAddress_43 : decode cX6_readAddress 43 = .ok (.putfield 118, 3) := by decide +kernel
theorem dX6_readAddress_46 : decode cX6_readAddress 46 = .ok (.goto 13, 3) := by decide +kernel
theorem dX6_readAddress_49 : decode cX6_readAddress 49 = .ok (.aload_n 0, 1) := by decide +kernel
theorem dX6_readAddress_50 : decode cX6_readAddress 50 = .ok (.dup, 1) := by decide +kernel
theorem dX6_readAddress_51 : decode cX6_readAddress 51 = .ok (.getfield 43, 3) := by decide +kernel
theorem dX6_readAddress_54 : decode cX6_readAddress 54 = .ok (.iconst 1, 1) := by decide +kernel
theorem dX6_readAddress_55 : decode cX6_readAddress 55 = .ok (.iadd, 1) := by decide +kernel
theorem dX6_readAddress_56 : decode cX6_readAddress 56 = .ok (.putfield 43, 3) := by decide +kernel
theorem dX6_readAddress_59 : decode cX6_readAddress 59 = .ok (.iload_n 2, 1) := by decide +kernel
theorem dX6_readAddress_60 : decode cX6_readAddress 60 = .ok (.bipush 39, 2) := by decide +kernel
theorem dX6_readAddress_62 : decode cX6_readAddress 62 = .ok (.if_icmp .ne 18, 3) := by decide +kernel
theorem dX6_readAddress_65 : decode cX6_readAddress 65 = .ok (.aload_n 1, 1) := by decide +kernel
theorem dX6_readAddress_66 : decode cX6_readAddress 66 = .ok (.aload_n 0, 1) := by decide +kernel
theorem dX6_readAddress_67 : decode cX6_readAddress 67 = .ok (.bipush 97, 2) := by decide +kernel
theorem dX6_readAddress_69 : decode cX6_readAddress 69 = .ok (.bipush 101, 2) := by decide +kernel
theorem dX6_readAddress_71 : decode cX6_readAddress 71 = .ok (.invokevirtual 121, 3) := by decide +kernel
theorem dX6_readAddress_74 : decode cX6_readAddress 74 = .ok (.putfield 118, 3) := by decide +kernel
theorem dX6_readAddress_77 : decode cX6_readAddress 77 = .ok (.goto 23, 3) := by decide +kernel
theorem dX6_readAddress_80 : decode cX6_readAddress 80 = .ok (.iload_n 2, 1) := by decide +kernel
theorem dX6_readAddress_81 : decode cX6_readAddress 81 = .ok (.bipush 47, 2) := by decide +kernel
theorem dX6_readAddress_83 : decode cX6_readAddress 83 = .ok (.if_icmp .eq 9, 3) := by decide +kernel
theorem dX6_readAddress_86 : decode cX6_readAddress 86 = .ok (.iload_n 2, 1) := by decide +kernel
theorem dX6_readAddress_87 : decode cX6_readAddress 87 = .ok (.bipush 63, 2) := by decide +kernel
theorem dX6_readAddress_89 : decode cX6_readAddress 89 = .ok (.if_icmp .ne 11, 3) := by decide +kernel
theorem dX6_readAddress_92 : decode cX6_readAddress 92 = .ok (.aload_n 1, 1) := by decide +kernel
theorem dX6_readAddress_93 : decode cX6_readAddress 93 = .ok (.aload_n 0, 1) := by decide +kernel
theorem dX6_readAddress_94 : decode cX6_readAddress 94 = .ok (.invokevirtual 53, 3) := by decide +kernel
theorem dX6_readAddress_97 : decode cX6_readAddress 97 = .ok (.putfield 118, 3) := by decide +kernel
theorem dX6_readAddress_100 : decode cX6_readAddress 100 = .ok (.aload_n 1, 1) := by decide +kernel
theorem dX6_readAddress_101 : decode cX6_readAddress 101 = .ok (.getfield 118, 3) := by decide +kernel
theorem dX6_readAddress_104 : decode cX6_readAddress 104 = .ok (.iconst (-1), 1) := by decide +kernel
theorem dX6_readAddress_105 : decode cX6_readAddress 105 = .ok (.if_icmp .eq 23, 3) := by decide +kernel
theorem dX6_readAddress_108 : decode cX6_readAddress 108 = .ok (.iload_n 2, 1) := by decide +kernel
theorem dX6_readAddress_109 : decode cX6_readAddress 109 = .ok (.bipush 47, 2) := by decide +kernel
theorem dX6_readAddress_111 : decode cX6_readAddress 111 = .ok (.if_icmp .eq 9, 3) := by decide +kernel
theorem dX6_readAddress_114 : decode cX6_readAddress 114 = .ok (.iload_n 2, 1) := by decide +kernel
theorem dX6_readAddress_115 : decode cX6_readAddress 115 = .ok (.bipush 63, 2) := by decide +kernel
theorem dX6_readAddress_117 : decode cX6_readAddress 117 = .ok (.if_icmp .ne 13, 3) := by decide +kernel
theorem dX6_readAddress_120 : decode cX6_readAddress 120 = .ok (.aload_n 0, 1) := by decide +kernel
theorem dX6_readAddress_121 : decode cX6_readAddress 121 = .ok (.iload_n 2, 1) := by decide +kernel
theorem dX6_readAddress_122 : decode cX6_readAddress 122 = .ok (.invokevirtual 72, 3) := by decide +kernel
theorem dX6_readAddress_125 : decode cX6_readAddress 125 = .ok (.ifCond .ne 5, 3) := by decide +kernel
theorem dX6_readAddress_128 : decode cX6_readAddress 128 = .ok (.iconst 0, 1) := by decide +kernel
theorem dX6_readAddress_129 : decode cX6_readAddress 129 = .ok (.ireturn, 1) := by decide +kernel
theorem dX6_readAddress_130 : decode cX6_readAddress 130 = .ok (.iconst 0, 1) := by decide +kernel
theorem dX6_readAddress_131 : decode cX6_readAddress 131 = .ok (.istore_n 3, 1) := by decide +kernel
theorem dX6_readAddress_132 : decode cX6_readAddress 132 = .ok (.iload_n 3, 1) := by decide +kernel
theorem dX6_readAddress_133 : decode cX6_readAddress 133 = .ok (.bipush 60, 2) := by decide +kernel
theorem dX6_readAddress_135 : decode cX6_readAddress 135 = .ok (.if_icmp .ge 94, 3) := by decide +kernel
theorem dX6_readAddress_138 : decode cX6_readAddress 138 = .ok (.aload_n 0, 1) := by decide +kernel
theorem dX6_readAddress_139 : decode cX6_readAddress 139 = .ok (.invokevirtual 93, 3) := by decide +kernel
theorem dX6_readAddress_142 : decode cX6_readAddress 142 = .ok (.bipush 43, 2) := by decide +kernel
theorem dX6_readAddress_144 : decode cX6_readAddress 144 = .ok (.if_icmp .eq 12, 3) := by decide +kernel
theorem dX6_readAddress_147 : decode cX6_readAddress 147 = .ok (.aload_n 0, 1) := by decide +kernel
theorem dX6_readAddress_148 : decode cX6_readAddress 148 = .ok (.invokevirtual 93, 3) := by decide +kernel
theorem dX6_readAddress_151 : decode cX6_readAddress 151 = .ok (.bipush 45, 2) := by decide +kernel
theorem dX6_readAddress_153 : decode cX6_readAddress 153 = .ok (.if_icmp .ne 76, 3) := by decide +kernel
theorem dX6_readAddress_156 : decode cX6_readAddress 156 = .ok (.aload_n 0, 1) := by decide +kernel
theorem dX6_readAddress_157 : decode cX6_readAddress 157 = .ok (.invokevirtual 93, 3) := by decide +kernel
theorem dX6_readAddress_160 : decode cX6_readAddress 160 = .ok (.bipush 45, 2) := by decide +kernel
theorem dX6_readAddress_162 : decode cX6_readAddress 162 = .ok (.if_icmp .ne 7, 3) := by decide +kernel
theorem dX6_readAddress_165 : decode cX6_readAddress 165 = .ok (.iconst 1, 1) := by decide +kernel
theorem dX6_readAddress_166 : decode cX6_readAddress 166 = .ok (.goto 4, 3) := by decide +kernel
theorem dX6_readAddress_169 : decode cX6_readAddress 169 = .ok (.iconst 0, 1) := by decide +kernel
theorem dX6_readAddress_170 : decode cX6_readAddress 170 = .ok (.istore 4, 2) := by decide +kernel
theorem dX6_readAddress_172 : decode cX6_readAddress 172 = .ok (.aload_n 0, 1) := by decide +kernel
theorem dX6_readAddress_173 : decode cX6_readAddress 173 = .ok (.dup, 1) := by decide +kernel
theorem dX6_readAddress_174 : decode cX6_readAddress 174 = .ok (.getfield 43, 3) := by decide +kernel
theorem dX6_readAddress_177 : decode cX6_readAddress 177 = .ok (.iconst 1, 1) := by decide +kernel
theorem dX6_readAddress_178 : decode cX6_readAddress 178 = .ok (.iadd, 1) := by decide +kernel
theorem dX6_readAddress_179 : decode cX6_readAddress 179 = .ok (.putfield 43, 3) := by decide +kernel
theorem dX6_readAddress_182 : decode cX6_readAddress 182 = .ok (.aload_n 0, 1) := by decide +kernel
theorem dX6_readAddress_183 : decode cX6_readAddress 183 = .ok (.invokevirtual 115, 3) := by decide +kernel
theorem dX6_readAddress_186 : decode cX6_readAddress 186 = .ok (.istore 5, 2) := by decide +kernel
theorem dX6_readAddress_188 : decode cX6_readAddress 188 = .ok (.iload 5, 2) := by decide +kernel
theorem dX6_readAddress_190 : decode cX6_readAddress 190 = .ok (.iconst (-1), 1) := by decide +kernel
theorem dX6_readAddress_191 : decode cX6_readAddress 191 = .ok (.if_icmp .ne 5, 3) := by decide +kernel
theorem dX6_readAddress_194 : decode cX6_readAddress 194 = .ok (.iconst 0, 1) := by decide +kernel
theorem dX6_readAddress_195 : decode cX6_readAddress 195 = .ok (.ireturn, 1) := by decide +kernel
theorem dX6_readAddress_196 : decode cX6_readAddress 196 = .ok (.aload_n 1, 1) := by decide +kernel
theorem dX6_readAddress_197 : decode cX6_readAddress 197 = .ok (.dup, 1) := by decide +kernel
theorem dX6_readAddress_198 : decode cX6_readAddress 198 = .ok (.getfield 124, 3) := by decide +kernel
theorem dX6_readAddress_201 : decode cX6_readAddress 201 = .ok (.iload 4, 2) := by decide +kernel
theorem dX6_readAddress_203 : decode cX6_readAddress 203 = .ok (.ifCond .eq 9, 3) := by decide +kernel
theorem dX6_readAddress_206 : decode cX6_readAddress 206 = .ok (.iload 5, 2) := by decide +kernel
theorem dX6_readAddress_208 : decode cX6_readAddress 208 = .ok (.ineg, 1) := by decide +kernel
theorem dX6_readAddress_209 : decode cX6_readAddress 209 = .ok (.goto 5, 3) := by decide +kernel
theorem dX6_readAddress_212 : decode cX6_readAddress 212 = .ok (.iload 5, 2) := by decide +kernel
theorem dX6_readAddress_214 : decode cX6_readAddress 214 = .ok (.iadd, 1) := by decide +kernel
theorem dX6_readAddress_215 : decode cX6_readAddress 215 = .ok (.putfield 124, 3) := by decide +kernel
theorem dX6_readAddress_218 : decode cX6_readAddress 218 = .ok (.aload_n 1, 1) := by decide +kernel
theorem dX6_readAddress_219 : decode cX6_readAddress 219 = .ok (.iconst 1, 1) := by decide +kernel
theorem dX6_readAddress_220 : decode cX6_readAddress 220 = .ok (.putfield 127, 3) := by decide +kernel
theorem dX6_readAddress_223 : decode cX6_readAddress 223 = .ok (.iinc 3 1, 3) := by decide +kernel
theorem dX6_readAddress_226 : decode cX6_readAddress 226 = .ok (.goto (-94), 3) := by decide +kernel
theorem dX6_readAddress_229 : decode cX6_readAddress 229 = .ok (.iconst 1, 1) := by decide +kernel
theorem dX6_readAddress_230 : decode cX6_readAddress 230 = .ok (.ireturn, 1) := by decide +kernel
theorem dX6_readNumber_0 : decode cX6_readNumber 0 = .ok (.iconst (-1), 1) := by decide +kernel
theorem dX6_readNumber_1 : decode cX6_readNumber 1 = .ok (.istore_n 1, 1) := by decide +kernel
theorem dX6_readNumber_2 : decode cX6_readNumber 2 = .ok (.iconst 0, 1) := by decide +kernel
theorem dX6_readNumber_3 : decode cX6_readNumber 3 = .ok (.istore_n 2, 1) := by decide +kernel
theorem dX6_readNumber_4 : decode cX6_readNumber 4 = .ok (.iload_n 2, 1) := by decide +kernel
theorem dX6_readNumber_5 : decode cX6_readNumber 5 = .ok (.iconst 2, 1) := by decide +kernel
theorem dX6_readNumber_6 : decode cX6_readNumber 6 = .ok (.if_icmp .ge 52, 3) := by decide +kernel
theorem dX6_readNumber_9 : decode cX6_readNumber 9 = .ok (.aload_n 0, 1) := by decide +kernel
theorem dX6_readNumber_10 : decode cX6_readNumber 10 = .ok (.invokevirtual 93, 3) := by decide +kernel
theorem dX6_readNumber_13 : decode cX6_readNumber 13 = .ok (.istore_n 3, 1) := by decide +kernel
theorem dX6_readNumber_14 : decode cX6_readNumber 14 = .ok (.iload_n 3, 1) := by decide +kernel
theorem dX6_readNumber_15 : decode cX6_readNumber 15 = .ok (.bipush 48, 2) := by decide +kernel
theorem dX6_readNumber_17 : decode cX6_readNumber 17 = .ok (.if_icmp .lt 9, 3) := by decide +kernel
theorem dX6_readNumber_20 : decode cX6_readNumber 20 = .ok (.iload_n 3, 1) := by decide +kernel
theorem dX6_readNumber_21 : decode cX6_readNumber 21 = .ok (.bipush 57, 2) := by decide +kernel
theorem dX6_readNumber_23 : decode cX6_readNumber 23 = .ok (.if_icmp .le 5, 3) := by decide +kernel
theorem dX6_readNumber_26 : decode cX6_readNumber 26 = .ok (.iload_n 1, 1) := by decide +kernel
theorem dX6_readNumber_27 : decode cX6_readNumber 27 = .ok (.ireturn, 1) := by decide +kernel
theorem dX6_readNumber_28 : decode cX6_readNumber 28 = .ok (.iload_n 1, 1) := by decide +kernel
theorem dX6_readNumber_29 : decode cX6_readNumber 29 = .ok (.iconst 0, 1) := by decide +kernel
theorem dX6_readNumber_30 : decode cX6_readNumber 30 = .ok (.invokestatic 131, 3) := by decide +kernel
theorem dX6_readNumber_33 : decode cX6_readNumber 33 = .ok (.bipush 10, 2) := by decide +kernel
theorem dX6_readNumber_35 : decode cX6_readNumber 35 = .ok (.imul, 1) := by decide +kernel
theorem dX6_readNumber_36 : decode cX6_readNumber 36 = .ok (.iload_n 3, 1) := by decide +kernel
