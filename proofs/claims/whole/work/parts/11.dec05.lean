theorem dc_MO_hold_47 : decode cd_MO_hold 47 = .ok (.iadd, 1) := by decide +kernel
theorem dc_MO_hold_48 : decode cd_MO_hold 48 = .ok (.iastore, 1) := by decide +kernel
theorem dc_MO_hold_49 : decode cd_MO_hold 49 = .ok (.iinc 3 1, 3) := by decide +kernel
theorem dc_MO_hold_52 : decode cd_MO_hold 52 = .ok (.goto (-50), 3) := by decide +kernel
theorem dc_MO_hold_55 : decode cd_MO_hold 55 = .ok (.return_, 1) := by decide +kernel
theorem dc_MO_gone_0 : decode cd_MO_gone 0 = .ok (.aload_n 0, 1) := by decide +kernel
theorem dc_MO_gone_1 : decode cd_MO_gone 1 = .ok (.getfield 19, 3) := by decide +kernel
theorem dc_MO_gone_4 : decode cd_MO_gone 4 = .ok (.iload_n 1, 1) := by decide +kernel
theorem dc_MO_gone_5 : decode cd_MO_gone 5 = .ok (.iconst 0, 1) := by decide +kernel
theorem dc_MO_gone_6 : decode cd_MO_gone 6 = .ok (.iastore, 1) := by decide +kernel
theorem dc_MO_gone_7 : decode cd_MO_gone 7 = .ok (.aload_n 0, 1) := by decide +kernel
theorem dc_MO_gone_8 : decode cd_MO_gone 8 = .ok (.dup, 1) := by decide +kernel
theorem dc_MO_gone_9 : decode cd_MO_gone 9 = .ok (.getfield 58, 3) := by decide +kernel
theorem dc_MO_gone_12 : decode cd_MO_gone 12 = .ok (.iconst 1, 1) := by decide +kernel
theorem dc_MO_gone_13 : decode cd_MO_gone 13 = .ok (.isub, 1) := by decide +kernel
theorem dc_MO_gone_14 : decode cd_MO_gone 14 = .ok (.putfield 58, 3) := by decide +kernel
theorem dc_MO_gone_17 : decode cd_MO_gone 17 = .ok (.aload_n 0, 1) := by decide +kernel
theorem dc_MO_gone_18 : decode cd_MO_gone 18 = .ok (.getfield 25, 3) := by decide +kernel
theorem dc_MO_gone_21 : decode cd_MO_gone 21 = .ok (.iload_n 2, 1) := by decide +kernel
theorem dc_MO_gone_22 : decode cd_MO_gone 22 = .ok (.iload_n 1, 1) := by decide +kernel
theorem dc_MO_gone_23 : decode cd_MO_gone 23 = .ok (.iastore, 1) := by decide +kernel
theorem dc_MO_gone_24 : decode cd_MO_gone 24 = .ok (.iload_n 2, 1) := by decide +kernel
theorem dc_MO_gone_25 : decode cd_MO_gone 25 = .ok (.iconst 1, 1) := by decide +kernel
theorem dc_MO_gone_26 : decode cd_MO_gone 26 = .ok (.iadd, 1) := by decide +kernel
theorem dc_MO_gone_27 : decode cd_MO_gone 27 = .ok (.ireturn, 1) := by decide +kernel
theorem dc_MO_root_0 : decode cd_MO_root 0 = .ok (.iload_n 1, 1) := by decide +kernel
theorem dc_MO_root_1 : decode cd_MO_root 1 = .ok (.iconst 0, 1) := by decide +kernel
theorem dc_MO_root_2 : decode cd_MO_root 2 = .ok (.bipush 15, 2) := by decide +kernel
theorem dc_MO_root_4 : decode cd_MO_root 4 = .ok (.invokestatic 41, 3) := by decide +kernel
theorem dc_MO_root_7 : decode cd_MO_root 7 = .ok (.ifCond .ne 5, 3) := by decide +kernel
theorem dc_MO_root_10 : decode cd_MO_root 10 = .ok (.iconst (-1), 1) := by decide +kernel
theorem dc_MO_root_11 : decode cd_MO_root 11 = .ok (.ireturn, 1) := by decide +kernel
theorem dc_MO_root_12 : decode cd_MO_root 12 = .ok (.iload_n 2, 1) := by decide +kernel
theorem dc_MO_root_13 : decode cd_MO_root 13 = .ok (.iconst (-1), 1) := by decide +kernel
theorem dc_MO_root_14 : decode cd_MO_root 14 = .ok (.if_icmp .eq 14, 3) := by decide +kernel
theorem dc_MO_root_17 : decode cd_MO_root 17 = .ok (.aload_n 0, 1) := by decide +kernel
theorem dc_MO_root_18 : decode cd_MO_root 18 = .ok (.iload_n 2, 1) := by decide +kernel
theorem dc_MO_root_19 : decode cd_MO_root 19 = .ok (.invokevirtual 74, 3) := by decide +kernel
theorem dc_MO_root_22 : decode cd_MO_root 22 = .ok (.ifCond .ne 6, 3) := by decide +kernel
theorem dc_MO_root_25 : decode cd_MO_root 25 = .ok (.bipush (-2), 2) := by decide +kernel
theorem dc_MO_root_27 : decode cd_MO_root 27 = .ok (.ireturn, 1) := by decide +kernel
theorem dc_MO_root_28 : decode cd_MO_root 28 = .ok (.aload_n 0, 1) := by decide +kernel
theorem dc_MO_root_29 : decode cd_MO_root 29 = .ok (.getfield 28, 3) := by decide +kernel
theorem dc_MO_root_32 : decode cd_MO_root 32 = .ok (.iload_n 1, 1) := by decide +kernel
theorem dc_MO_root_33 : decode cd_MO_root 33 = .ok (.iload_n 2, 1) := by decide +kernel
theorem dc_MO_root_34 : decode cd_MO_root 34 = .ok (.iastore, 1) := by decide +kernel
theorem dc_MO_root_35 : decode cd_MO_root 35 = .ok (.aload_n 0, 1) := by decide +kernel
theorem dc_MO_root_36 : decode cd_MO_root 36 = .ok (.invokevirtual 71, 3) := by decide +kernel
theorem dc_MO_root_39 : decode cd_MO_root 39 = .ok (.aload_n 0, 1) := by decide +kernel
theorem dc_MO_root_40 : decode cd_MO_root 40 = .ok (.getfield 58, 3) := by decide +kernel
theorem dc_MO_root_43 : decode cd_MO_root 43 = .ok (.ireturn, 1) := by decide +kernel
theorem dc_MO_isThere_0 : decode cd_MO_isThere 0 = .ok (.iload_n 1, 1) := by decide +kernel
theorem dc_MO_isThere_1 : decode cd_MO_isThere 1 = .ok (.iconst 0, 1) := by decide +kernel
theorem dc_MO_isThere_2 : decode cd_MO_isThere 2 = .ok (.aload_n 0, 1) := by decide +kernel
theorem dc_MO_isThere_3 : decode cd_MO_isThere 3 = .ok (.getfield 37, 3) := by decide +kernel
theorem dc_MO_isThere_6 : decode cd_MO_isThere 6 = .ok (.iconst 1, 1) := by decide +kernel
theorem dc_MO_isThere_7 : decode cd_MO_isThere 7 = .ok (.isub, 1) := by decide +kernel
theorem dc_MO_isThere_8 : decode cd_MO_isThere 8 = .ok (.invokestatic 41, 3) := by decide +kernel
theorem dc_MO_isThere_11 : decode cd_MO_isThere 11 = .ok (.ifCond .eq 17, 3) := by decide +kernel
theorem dc_MO_isThere_14 : decode cd_MO_isThere 14 = .ok (.aload_n 0, 1) := by decide +kernel
theorem dc_MO_isThere_15 : decode cd_MO_isThere 15 = .ok (.getfield 19, 3) := by decide +kernel
theorem dc_MO_isThere_18 : decode cd_MO_isThere 18 = .ok (.iload_n 1, 1) := by decide +kernel
theorem dc_MO_isThere_19 : decode cd_MO_isThere 19 = .ok (.iaload, 1) := by decide +kernel
theorem dc_MO_isThere_20 : decode cd_MO_isThere 20 = .ok (.iconst 1, 1) := by decide +kernel
theorem dc_MO_isThere_21 : decode cd_MO_isThere 21 = .ok (.if_icmp .ne 7, 3) := by decide +kernel
theorem dc_MO_isThere_24 : decode cd_MO_isThere 24 = .ok (.iconst 1, 1) := by decide +kernel
theorem dc_MO_isThere_25 : decode cd_MO_isThere 25 = .ok (.goto 4, 3) := by decide +kernel
theorem dc_MO_isThere_28 : decode cd_MO_isThere 28 = .ok (.iconst 0, 1) := by decide +kernel
theorem dc_MO_isThere_29 : decode cd_MO_isThere 29 = .ok (.ireturn, 1) := by decide +kernel
theorem dc_MO_point_0 : decode cd_MO_point 0 = .ok (.aload_n 0, 1) := by decide +kernel
theorem dc_MO_point_1 : decode cd_MO_point 1 = .ok (.iload_n 1, 1) := by decide +kernel
theorem dc_MO_point_2 : decode cd_MO_point 2 = .ok (.invokevirtual 74, 3) := by decide +kernel
theorem dc_MO_point_5 : decode cd_MO_point 5 = .ok (.ifCond .eq 25, 3) := by decide +kernel
theorem dc_MO_point_8 : decode cd_MO_point 8 = .ok (.aload_n 0, 1) := by decide +kernel
theorem dc_MO_point_9 : decode cd_MO_point 9 = .ok (.iload_n 2, 1) := by decide +kernel
theorem dc_MO_point_10 : decode cd_MO_point 10 = .ok (.invokevirtual 74, 3) := by decide +kernel
theorem dc_MO_point_13 : decode cd_MO_point 13 = .ok (.ifCond .eq 17, 3) := by decide +kernel
theorem dc_MO_point_16 : decode cd_MO_point 16 = .ok (.aload_n 0, 1) := by decide +kernel
theorem dc_MO_point_17 : decode cd_MO_point 17 = .ok (.iload_n 1, 1) := by decide +kernel
theorem dc_MO_point_18 : decode cd_MO_point 18 = .ok (.ldc2_w 56, 3) := by decide +kernel
theorem dc_MO_point_21 : decode cd_MO_point 21 = .ok (.iload_n 2, 1) := by decide +kernel
theorem dc_MO_point_22 : decode cd_MO_point 22 = .ok (.i2l, 1) := by decide +kernel
theorem dc_MO_point_23 : decode cd_MO_point 23 = .ok (.ladd, 1) := by decide +kernel
theorem dc_MO_point_24 : decode cd_MO_point 24 = .ok (.invokevirtual 81, 3) := by decide +kernel
theorem dc_MO_point_27 : decode cd_MO_point 27 = .ok (.goto 5, 3) := by decide +kernel
theorem dc_MO_point_30 : decode cd_MO_point 30 = .ok (.bipush (-2), 2) := by decide +kernel
theorem dc_MO_point_32 : decode cd_MO_point 32 = .ok (.ireturn, 1) := by decide +kernel
theorem dc_MO_add_0 : decode cd_MO_add 0 = .ok (.aload_n 0, 1) := by decide +kernel
theorem dc_MO_add_1 : decode cd_MO_add 1 = .ok (.getfield 15, 3) := by decide +kernel
theorem dc_MO_add_4 : decode cd_MO_add 4 = .ok (.iload_n 1, 1) := by decide +kernel
theorem dc_MO_add_5 : decode cd_MO_add 5 = .ok (.iaload, 1) := by decide +kernel
theorem dc_MO_add_6 : decode cd_MO_add 6 = .ok (.sipush 300, 3) := by decide +kernel
theorem dc_MO_add_9 : decode cd_MO_add 9 = .ok (.if_icmp .ne 6, 3) := by decide +kernel
theorem dc_MO_add_12 : decode cd_MO_add 12 = .ok (.bipush (-3), 2) := by decide +kernel
theorem dc_MO_add_14 : decode cd_MO_add 14 = .ok (.ireturn, 1) := by decide +kernel
theorem dc_MO_add_15 : decode cd_MO_add 15 = .ok (.aload_n 0, 1) := by decide +kernel
theorem dc_MO_add_16 : decode cd_MO_add 16 = .ok (.getfield 15, 3) := by decide +kernel
theorem dc_MO_add_19 : decode cd_MO_add 19 = .ok (.iload_n 1, 1) := by decide +kernel
theorem dc_MO_add_20 : decode cd_MO_add 20 = .ok (.iaload, 1) := by decide +kernel
theorem dc_MO_add_21 : decode cd_MO_add 21 = .ok (.aload_n 0, 1) := by decide +kernel
theorem dc_MO_add_22 : decode cd_MO_add 22 = .ok (.getfield 9, 3) := by decide +kernel
theorem dc_MO_add_25 : decode cd_MO_add 25 = .ok (.iload_n 1, 1) := by decide +kernel
theorem dc_MO_add_26 : decode cd_MO_add 26 = .ok (.aaload, 1) := by decide +kernel
theorem dc_MO_add_27 : decode cd_MO_add 27 = .ok (.arraylength, 1) := by decide +kernel
theorem dc_MO_add_28 : decode cd_MO_add 28 = .ok (.if_icmp .ne 26, 3) := by decide +kernel
theorem dc_MO_add_31 : decode cd_MO_add 31 = .ok (.aload_n 0, 1) := by decide +kernel
theorem dc_MO_add_32 : decode cd_MO_add 32 = .ok (.getfield 9, 3) := by decide +kernel
theorem dc_MO_add_35 : decode cd_MO_add 35 = .ok (.iload_n 1, 1) := by decide +kernel
theorem dc_MO_add_36 : decode cd_MO_add 36 = .ok (.aload_n 0, 1) := by decide +kernel
theorem dc_MO_add_37 : decode cd_MO_add 37 = .ok (.getfield 9, 3) := by decide +kernel
theorem dc_MO_add_40 : decode cd_MO_add 40 = .ok (.iload_n 1, 1) := by decide +kernel
theorem dc_MO_add_41 : decode cd_MO_add 41 = .ok (.aaload, 1) := by decide +kernel
theorem dc_MO_add_42 : decode cd_MO_add 42 = .ok (.iconst 2, 1) := by decide +kernel
theorem dc_MO_add_43 : decode cd_MO_add 43 = .ok (.aload_n 0, 1) := by decide +kernel
theorem dc_MO_add_44 : decode cd_MO_add 44 = .ok (.getfield 15, 3) := by decide +kernel
theorem dc_MO_add_47 : decode cd_MO_add 47 = .ok (.iload_n 1, 1) := by decide +kernel
theorem dc_MO_add_48 : decode cd_MO_add 48 = .ok (.iaload, 1) := by decide +kernel
theorem dc_MO_add_49 : decode cd_MO_add 49 = .ok (.imul, 1) := by decide +kernel
theorem dc_MO_add_50 : decode cd_MO_add 50 = .ok (.invokestatic 78, 3) := by decide +kernel
theorem dc_MO_add_53 : decode cd_MO_add 53 = .ok (.aastore, 1) := by decide +kernel
theorem dc_MO_add_54 : decode cd_MO_add 54 = .ok (.aload_n 0, 1) := by decide +kernel
theorem dc_MO_add_55 : decode cd_MO_add 55 = .ok (.getfield 9, 3) := by decide +kernel
theorem dc_MO_add_58 : decode cd_MO_add 58 = .ok (.iload_n 1, 1) := by decide +kernel
theorem dc_MO_add_59 : decode cd_MO_add 59 = .ok (.aaload, 1) := by decide +kernel
theorem dc_MO_add_60 : decode cd_MO_add 60 = .ok (.aload_n 0, 1) := by decide +kernel
theorem dc_MO_add_61 : decode cd_MO_add 61 = .ok (.getfield 15, 3) := by decide +kernel
theorem dc_MO_add_64 : decode cd_MO_add 64 = .ok (.iload_n 1, 1) := by decide +kernel
theorem dc_MO_add_65 : decode cd_MO_add 65 = .ok (.iaload, 1) := by decide +kernel
theorem dc_MO_add_66 : decode cd_MO_add 66 = .ok (.lload_n 2, 1) := by decide +kernel
theorem dc_MO_add_67 : decode cd_MO_add 67 = .ok (.lastore, 1) := by decide +kernel
theorem dc_MO_add_68 : decode cd_MO_add 68 = .ok (.aload_n 0, 1) := by decide +kernel
theorem dc_MO_add_69 : decode cd_MO_add 69 = .ok (.getfield 15, 3) := by decide +kernel
theorem dc_MO_add_72 : decode cd_MO_add 72 = .ok (.iload_n 1, 1) := by decide +kernel
theorem dc_MO_add_73 : decode cd_MO_add 73 = .ok (.dup2, 1) := by decide +kernel
theorem dc_MO_add_74 : decode cd_MO_add 74 = .ok (.iaload, 1) := by decide +kernel
theorem dc_MO_add_75 : decode cd_MO_add 75 = .ok (.iconst 1, 1) := by decide +kernel
theorem dc_MO_add_76 : decode cd_MO_add 76 = .ok (.iadd, 1) := by decide +kernel
theorem dc_MO_add_77 : decode cd_MO_add 77 = .ok (.iastore, 1) := by decide +kernel
theorem dc_MO_add_78 : decode cd_MO_add 78 = .ok (.aload_n 0, 1) := by decide +kernel
theorem dc_MO_add_79 : decode cd_MO_add 79 = .ok (.getfield 15, 3) := by decide +kernel
theorem dc_MO_add_82 : decode cd_MO_add 82 = .ok (.iload_n 1, 1) := by decide +kernel
theorem dc_MO_add_83 : decode cd_MO_add 83 = .ok (.iaload, 1) := by decide +kernel
theorem dc_MO_add_84 : decode cd_MO_add 84 = .ok (.ireturn, 1) := by decide +kernel
theorem dc_AR_copyOfJ_0 : decode cd_AR_copyOfJ 0 = .ok (.iload_n 1, 1) := by decide +kernel
theorem dc_AR_copyOfJ_1 : decode cd_AR_copyOfJ 1 = .ok (.aload_n 0, 1) := by decide +kernel
theorem dc_AR_copyOfJ_2 : decode cd_AR_copyOfJ 2 = .ok (.arraylength, 1) := by decide +kernel
theorem dc_AR_copyOfJ_3 : decode cd_AR_copyOfJ 3 = .ok (.if_icmp .ne 11, 3) := by decide +kernel
theorem dc_AR_copyOfJ_6 : decode cd_AR_copyOfJ 6 = .ok (.aload_n 0, 1) := by decide +kernel
theorem dc_AR_copyOfJ_7 : decode cd_AR_copyOfJ 7 = .ok (.invokevirtual 319, 3) := by decide +kernel
theorem dc_AR_copyOfJ_10 : decode cd_AR_copyOfJ 10 = .ok (.checkcast 320, 3) := by decide +kernel
theorem dc_AR_copyOfJ_13 : decode cd_AR_copyOfJ 13 = .ok (.areturn, 1) := by decide +kernel
theorem dc_AR_copyOfJ_14 : decode cd_AR_copyOfJ 14 = .ok (.iload_n 1, 1) := by decide +kernel
theorem dc_AR_copyOfJ_15 : decode cd_AR_copyOfJ 15 = .ok (.newarray .long, 2) := by decide +kernel
theorem dc_AR_copyOfJ_17 : decode cd_AR_copyOfJ 17 = .ok (.astore_n 2, 1) := by decide +kernel
theorem dc_AR_copyOfJ_18 : decode cd_AR_copyOfJ 18 = .ok (.aload_n 0, 1) := by decide +kernel
theorem dc_AR_copyOfJ_19 : decode cd_AR_copyOfJ 19 = .ok (.iconst 0, 1) := by decide +kernel
theorem dc_AR_copyOfJ_20 : decode cd_AR_copyOfJ 20 = .ok (.aload_n 2, 1) := by decide +kernel
theorem dc_AR_copyOfJ_21 : decode cd_AR_copyOfJ 21 = .ok (.iconst 0, 1) := by decide +kernel
theorem dc_AR_copyOfJ_22 : decode cd_AR_copyOfJ 22 = .ok (.aload_n 0, 1) := by decide +kernel
theorem dc_AR_copyOfJ_23 : decode cd_AR_copyOfJ 23 = .ok (.arraylength, 1) := by decide +kernel
theorem dc_AR_copyOfJ_24 : decode cd_AR_copyOfJ 24 = .ok (.iload_n 1, 1) := by decide +kernel
theorem dc_AR_copyOfJ_25 : decode cd_AR_copyOfJ 25 = .ok (.invokestatic 304, 3) := by decide +kernel
theorem dc_AR_copyOfJ_28 : decode cd_AR_copyOfJ 28 = .ok (.invokestatic 150, 3) := by decide +kernel
theorem dc_AR_copyOfJ_31 : decode cd_AR_copyOfJ 31 = .ok (.aload_n 2, 1) := by decide +kernel
theorem dc_AR_copyOfJ_32 : decode cd_AR_copyOfJ 32 = .ok (.areturn, 1) := by decide +kernel
theorem dc_MO_note_0 : decode cd_MO_note 0 = .ok (.aload_n 0, 1) := by decide +kernel
theorem dc_MO_note_1 : decode cd_MO_note 1 = .ok (.iload_n 1, 1) := by decide +kernel
theorem dc_MO_note_2 : decode cd_MO_note 2 = .ok (.invokevirtual 74, 3) := by decide +kernel
theorem dc_MO_note_5 : decode cd_MO_note 5 = .ok (.ifCond .eq 13, 3) := by decide +kernel
theorem dc_MO_note_8 : decode cd_MO_note 8 = .ok (.aload_n 0, 1) := by decide +kernel
theorem dc_MO_note_9 : decode cd_MO_note 9 = .ok (.iload_n 1, 1) := by decide +kernel
theorem dc_MO_note_10 : decode cd_MO_note 10 = .ok (.iload_n 2, 1) := by decide +kernel
theorem dc_MO_note_11 : decode cd_MO_note 11 = .ok (.i2l, 1) := by decide +kernel
theorem dc_MO_note_12 : decode cd_MO_note 12 = .ok (.invokevirtual 81, 3) := by decide +kernel
theorem dc_MO_note_15 : decode cd_MO_note 15 = .ok (.goto 5, 3) := by decide +kernel
theorem dc_MO_note_18 : decode cd_MO_note 18 = .ok (.bipush (-2), 2) := by decide +kernel
theorem dc_MO_note_20 : decode cd_MO_note 20 = .ok (.ireturn, 1) := by decide +kernel
theorem dc_MO_turn_0 : decode cd_MO_turn 0 = .ok (.aload_n 0, 1) := by decide +kernel
theorem dc_MO_turn_1 : decode cd_MO_turn 1 = .ok (.iload_n 1, 1) := by decide +kernel
theorem dc_MO_turn_2 : decode cd_MO_turn 2 = .ok (.invokevirtual 74, 3) := by decide +kernel
theorem dc_MO_turn_5 : decode cd_MO_turn 5 = .ok (.ifCond .eq 27, 3) := by decide +kernel
theorem dc_MO_turn_8 : decode cd_MO_turn 8 = .ok (.aload_n 0, 1) := by decide +kernel
theorem dc_MO_turn_9 : decode cd_MO_turn 9 = .ok (.iload_n 3, 1) := by decide +kernel
theorem dc_MO_turn_10 : decode cd_MO_turn 10 = .ok (.invokevirtual 74, 3) := by decide +kernel
theorem dc_MO_turn_13 : decode cd_MO_turn 13 = .ok (.ifCond .eq 19, 3) := by decide +kernel
theorem dc_MO_turn_16 : decode cd_MO_turn 16 = .ok (.iload_n 2, 1) := by decide +kernel
theorem dc_MO_turn_17 : decode cd_MO_turn 17 = .ok (.iconst 0, 1) := by decide +kernel
theorem dc_MO_turn_18 : decode cd_MO_turn 18 = .ok (.aload_n 0, 1) := by decide +kernel
theorem dc_MO_turn_19 : decode cd_MO_turn 19 = .ok (.getfield 15, 3) := by decide +kernel
theorem dc_MO_turn_22 : decode cd_MO_turn 22 = .ok (.iload_n 1, 1) := by decide +kernel
theorem dc_MO_turn_23 : decode cd_MO_turn 23 = .ok (.iaload, 1) := by decide +kernel
theorem dc_MO_turn_24 : decode cd_MO_turn 24 = .ok (.iconst 1, 1) := by decide +kernel
theorem dc_MO_turn_25 : decode cd_MO_turn 25 = .ok (.isub, 1) := by decide +kernel
theorem dc_MO_turn_26 : decode cd_MO_turn 26 = .ok (.invokestatic 41, 3) := by decide +kernel
theorem dc_MO_turn_29 : decode cd_MO_turn 29 = .ok (.ifCond .ne 6, 3) := by decide +kernel
theorem dc_MO_turn_32 : decode cd_MO_turn 32 = .ok (.bipush (-2), 2) := by decide +kernel
theorem dc_MO_turn_34 : decode cd_MO_turn 34 = .ok (.ireturn, 1) := by decide +kernel
theorem dc_MO_turn_35 : decode cd_MO_turn 35 = .ok (.aload_n 0, 1) := by decide +kernel
theorem dc_MO_turn_36 : decode cd_MO_turn 36 = .ok (.getfield 9, 3) := by decide +kernel
theorem dc_MO_turn_39 : decode cd_MO_turn 39 = .ok (.iload_n 1, 1) := by decide +kernel
theorem dc_MO_turn_40 : decode cd_MO_turn 40 = .ok (.aaload, 1) := by decide +kernel
theorem dc_MO_turn_41 : decode cd_MO_turn 41 = .ok (.iload_n 2, 1) := by decide +kernel
theorem dc_MO_turn_42 : decode cd_MO_turn 42 = .ok (.ldc2_w 56, 3) := by decide +kernel
theorem dc_MO_turn_45 : decode cd_MO_turn 45 = .ok (.iload_n 3, 1) := by decide +kernel
theorem dc_MO_turn_46 : decode cd_MO_turn 46 = .ok (.i2l, 1) := by decide +kernel
theorem dc_MO_turn_47 : decode cd_MO_turn 47 = .ok (.ladd, 1) := by decide +kernel
theorem dc_MO_turn_48 : decode cd_MO_turn 48 = .ok (.lastore, 1) := by decide +kernel
theorem dc_MO_turn_49 : decode cd_MO_turn 49 = .ok (.aload_n 0, 1) := by decide +kernel
theorem dc_MO_turn_50 : decode cd_MO_turn 50 = .ok (.invokevirtual 71, 3) := by decide +kernel
theorem dc_MO_turn_53 : decode cd_MO_turn 53 = .ok (.aload_n 0, 1) := by decide +kernel
theorem dc_MO_turn_54 : decode cd_MO_turn 54 = .ok (.getfield 58, 3) := by decide +kernel
theorem dc_MO_turn_57 : decode cd_MO_turn 57 = .ok (.ireturn, 1) := by decide +kernel
theorem dc_MO_take_0 : decode cd_MO_take 0 = .ok (.aload_n 0, 1) := by decide +kernel
theorem dc_MO_take_1 : decode cd_MO_take 1 = .ok (.iload_n 1, 1) := by decide +kernel
theorem dc_MO_take_2 : decode cd_MO_take 2 = .ok (.invokevirtual 74, 3) := by decide +kernel
theorem dc_MO_take_5 : decode cd_MO_take 5 = .ok (.ifCond .eq 19, 3) := by decide +kernel
theorem dc_MO_take_8 : decode cd_MO_take 8 = .ok (.iload_n 2, 1) := by decide +kernel
theorem dc_MO_take_9 : decode cd_MO_take 9 = .ok (.iconst 0, 1) := by decide +kernel
theorem dc_MO_take_10 : decode cd_MO_take 10 = .ok (.aload_n 0, 1) := by decide +kernel
theorem dc_MO_take_11 : decode cd_MO_take 11 = .ok (.getfield 15, 3) := by decide +kernel
theorem dc_MO_take_14 : decode cd_MO_take 14 = .ok (.iload_n 1, 1) := by decide +kernel
theorem dc_MO_take_15 : decode cd_MO_take 15 = .ok (.iaload, 1) := by decide +kernel
theorem dc_MO_take_16 : decode cd_MO_take 16 = .ok (.iconst 1, 1) := by decide +kernel
theorem dc_MO_take_17 : decode cd_MO_take 17 = .ok (.isub, 1) := by decide +kernel
theorem dc_MO_take_18 : decode cd_MO_take 18 = .ok (.invokestatic 41, 3) := by decide +kernel
theorem dc_MO_take_21 : decode cd_MO_take 21 = .ok (.ifCond .ne 6, 3) := by decide +kernel
theorem dc_MO_take_24 : decode cd_MO_take 24 = .ok (.bipush (-2), 2) := by decide +kernel
theorem dc_MO_take_26 : decode cd_MO_take 26 = .ok (.ireturn, 1) := by decide +kernel
theorem dc_MO_take_27 : decode cd_MO_take 27 = .ok (.aload_n 0, 1) := by decide +kernel
theorem dc_MO_take_28 : decode cd_MO_take 28 = .ok (.getfield 15, 3) := by decide +kernel
theorem dc_MO_take_31 : decode cd_MO_take 31 = .ok (.iload_n 1, 1) := by decide +kernel
theorem dc_MO_take_32 : decode cd_MO_take 32 = .ok (.dup2, 1) := by decide +kernel
theorem dc_MO_take_33 : decode cd_MO_take 33 = .ok (.iaload, 1) := by decide +kernel
theorem dc_MO_take_34 : decode cd_MO_take 34 = .ok (.iconst 1, 1) := by decide +kernel
theorem dc_MO_take_35 : decode cd_MO_take 35 = .ok (.isub, 1) := by decide +kernel
theorem dc_MO_take_36 : decode cd_MO_take 36 = .ok (.iastore, 1) := by decide +kernel
theorem dc_MO_take_37 : decode cd_MO_take 37 = .ok (.iload_n 2, 1) := by decide +kernel
theorem dc_MO_take_38 : decode cd_MO_take 38 = .ok (.istore_n 3, 1) := by decide +kernel
theorem dc_MO_take_39 : decode cd_MO_take 39 = .ok (.iload_n 3, 1) := by decide +kernel
theorem dc_MO_take_40 : decode cd_MO_take 40 = .ok (.aload_n 0, 1) := by decide +kernel
theorem dc_MO_take_41 : decode cd_MO_take 41 = .ok (.getfield 15, 3) := by decide +kernel
theorem dc_MO_take_44 : decode cd_MO_take 44 = .ok (.iload_n 1, 1) := by decide +kernel
theorem dc_MO_take_45 : decode cd_MO_take 45 = .ok (.iaload, 1) := by decide +kernel
theorem dc_MO_take_46 : decode cd_MO_take 46 = .ok (.if_icmp .ge 27, 3) := by decide +kernel
theorem dc_MO_take_49 : decode cd_MO_take 49 = .ok (.aload_n 0, 1) := by decide +kernel
theorem dc_MO_take_50 : decode cd_MO_take 50 = .ok (.getfield 9, 3) := by decide +kernel
theorem dc_MO_take_53 : decode cd_MO_take 53 = .ok (.iload_n 1, 1) := by decide +kernel
theorem dc_MO_take_54 : decode cd_MO_take 54 = .ok (.aaload, 1) := by decide +kernel
theorem dc_MO_take_55 : decode cd_MO_take 55 = .ok (.iload_n 3, 1) := by decide +kernel
theorem dc_MO_take_56 : decode cd_MO_take 56 = .ok (.aload_n 0, 1) := by decide +kernel
theorem dc_MO_take_57 : decode cd_MO_take 57 = .ok (.getfield 9, 3) := by decide +kernel
theorem dc_MO_take_60 : decode cd_MO_take 60 = .ok (.iload_n 1, 1) := by decide +kernel
theorem dc_MO_take_61 : decode cd_MO_take 61 = .ok (.aaload, 1) := by decide +kernel
theorem dc_MO_take_62 : decode cd_MO_take 62 = .ok (.iload_n 3, 1) := by decide +kernel
theorem dc_MO_take_63 : decode cd_MO_take 63 = .ok (.iconst 1, 1) := by decide +kernel
theorem dc_MO_take_64 : decode cd_MO_take 64 = .ok (.iadd, 1) := by decide +kernel
theorem dc_MO_take_65 : decode cd_MO_take 65 = .ok (.laload, 1) := by decide +kernel
theorem dc_MO_take_66 : decode cd_MO_take 66 = .ok (.lastore, 1) := by decide +kernel
theorem dc_MO_take_67 : decode cd_MO_take 67 = .ok (.iinc 3 1, 3) := by decide +kernel
theorem dc_MO_take_70 : decode cd_MO_take 70 = .ok (.goto (-31), 3) := by decide +kernel
theorem dc_MO_take_73 : decode cd_MO_take 73 = .ok (.aload_n 0, 1) := by decide +kernel
theorem dc_MO_take_74 : decode cd_MO_take 74 = .ok (.invokevirtual 71, 3) := by decide +kernel
theorem dc_MO_take_77 : decode cd_MO_take 77 = .ok (.aload_n 0, 1) := by decide +kernel
theorem dc_MO_take_78 : decode cd_MO_take 78 = .ok (.getfield 58, 3) := by decide +kernel
theorem dc_MO_take_81 : decode cd_MO_take 81 = .ok (.ireturn, 1) := by decide +kernel
theorem dc_MO_item_0 : decode cd_MO_item 0 = .ok (.aload_n 0, 1) := by decide +kernel
theorem dc_MO_item_1 : decode cd_MO_item 1 = .ok (.iload_n 1, 1) := by decide +kernel
theorem dc_MO_item_2 : decode cd_MO_item 2 = .ok (.invokevirtual 74, 3) := by decide +kernel
theorem dc_MO_item_5 : decode cd_MO_item 5 = .ok (.ifCond .eq 30, 3) := by decide +kernel
theorem dc_MO_item_8 : decode cd_MO_item 8 = .ok (.iload_n 2, 1) := by decide +kernel
theorem dc_MO_item_9 : decode cd_MO_item 9 = .ok (.iconst 0, 1) := by decide +kernel
theorem dc_MO_item_10 : decode cd_MO_item 10 = .ok (.aload_n 0, 1) := by decide +kernel
theorem dc_MO_item_11 : decode cd_MO_item 11 = .ok (.getfield 15, 3) := by decide +kernel
theorem dc_MO_item_14 : decode cd_MO_item 14 = .ok (.iload_n 1, 1) := by decide +kernel
theorem dc_MO_item_15 : decode cd_MO_item 15 = .ok (.iaload, 1) := by decide +kernel
theorem dc_MO_item_16 : decode cd_MO_item 16 = .ok (.iconst 1, 1) := by decide +kernel
theorem dc_MO_item_17 : decode cd_MO_item 17 = .ok (.isub, 1) := by decide +kernel
theorem dc_MO_item_18 : decode cd_MO_item 18 = .ok (.invokestatic 41, 3) := by decide +kernel
theorem dc_MO_item_21 : decode cd_MO_item 21 = .ok (.ifCond .eq 14, 3) := by decide +kernel
theorem dc_MO_item_24 : decode cd_MO_item 24 = .ok (.aload_n 0, 1) := by decide +kernel
