theorem dc_TH_root_19 : decode cd_TH_root 19 = .ok (.iload_n 2, 1) := by decide +kernel
theorem dc_TH_root_20 : decode cd_TH_root 20 = .ok (.iconst (-1), 1) := by decide +kernel
theorem dc_TH_root_21 : decode cd_TH_root 21 = .ok (.if_icmp .eq 6, 3) := by decide +kernel
theorem dc_TH_root_24 : decode cd_TH_root 24 = .ok (.bipush (-2), 2) := by decide +kernel
theorem dc_TH_root_26 : decode cd_TH_root 26 = .ok (.ireturn, 1) := by decide +kernel
theorem dc_TH_root_27 : decode cd_TH_root 27 = .ok (.aload_n 0, 1) := by decide +kernel
theorem dc_TH_root_28 : decode cd_TH_root 28 = .ok (.iload_n 1, 1) := by decide +kernel
theorem dc_TH_root_29 : decode cd_TH_root 29 = .ok (.aload_n 3, 1) := by decide +kernel
theorem dc_TH_root_30 : decode cd_TH_root 30 = .ok (.invokevirtual 47, 3) := by decide +kernel
theorem dc_TH_root_33 : decode cd_TH_root 33 = .ok (.aload_n 0, 1) := by decide +kernel
theorem dc_TH_root_34 : decode cd_TH_root 34 = .ok (.getfield 18, 3) := by decide +kernel
theorem dc_TH_root_37 : decode cd_TH_root 37 = .ok (.invokevirtual 36, 3) := by decide +kernel
theorem dc_TH_root_40 : decode cd_TH_root 40 = .ok (.ireturn, 1) := by decide +kernel
theorem dc_TH_find_0 : decode cd_TH_find 0 = .ok (.iconst 0, 1) := by decide +kernel
theorem dc_TH_find_1 : decode cd_TH_find 1 = .ok (.istore_n 2, 1) := by decide +kernel
theorem dc_TH_find_2 : decode cd_TH_find 2 = .ok (.aload_n 0, 1) := by decide +kernel
theorem dc_TH_find_3 : decode cd_TH_find 3 = .ok (.getfield 18, 3) := by decide +kernel
theorem dc_TH_find_6 : decode cd_TH_find 6 = .ok (.invokevirtual 36, 3) := by decide +kernel
theorem dc_TH_find_9 : decode cd_TH_find 9 = .ok (.iconst 1, 1) := by decide +kernel
theorem dc_TH_find_10 : decode cd_TH_find 10 = .ok (.isub, 1) := by decide +kernel
theorem dc_TH_find_11 : decode cd_TH_find 11 = .ok (.istore_n 3, 1) := by decide +kernel
theorem dc_TH_find_12 : decode cd_TH_find 12 = .ok (.iload_n 2, 1) := by decide +kernel
theorem dc_TH_find_13 : decode cd_TH_find 13 = .ok (.iload_n 3, 1) := by decide +kernel
theorem dc_TH_find_14 : decode cd_TH_find 14 = .ok (.if_icmp .gt 61, 3) := by decide +kernel
theorem dc_TH_find_17 : decode cd_TH_find 17 = .ok (.iload_n 2, 1) := by decide +kernel
theorem dc_TH_find_18 : decode cd_TH_find 18 = .ok (.iload_n 3, 1) := by decide +kernel
theorem dc_TH_find_19 : decode cd_TH_find 19 = .ok (.iadd, 1) := by decide +kernel
theorem dc_TH_find_20 : decode cd_TH_find 20 = .ok (.iconst 2, 1) := by decide +kernel
theorem dc_TH_find_21 : decode cd_TH_find 21 = .ok (.idiv, 1) := by decide +kernel
theorem dc_TH_find_22 : decode cd_TH_find 22 = .ok (.istore 4, 2) := by decide +kernel
theorem dc_TH_find_24 : decode cd_TH_find 24 = .ok (.aload_n 0, 1) := by decide +kernel
theorem dc_TH_find_25 : decode cd_TH_find 25 = .ok (.getfield 18, 3) := by decide +kernel
theorem dc_TH_find_28 : decode cd_TH_find 28 = .ok (.iload 4, 2) := by decide +kernel
theorem dc_TH_find_30 : decode cd_TH_find 30 = .ok (.invokevirtual 68, 3) := by decide +kernel
theorem dc_TH_find_33 : decode cd_TH_find 33 = .ok (.checkcast 9, 3) := by decide +kernel
theorem dc_TH_find_36 : decode cd_TH_find 36 = .ok (.astore 5, 2) := by decide +kernel
theorem dc_TH_find_38 : decode cd_TH_find 38 = .ok (.aload 5, 2) := by decide +kernel
theorem dc_TH_find_40 : decode cd_TH_find 40 = .ok (.getfield 51, 3) := by decide +kernel
theorem dc_TH_find_43 : decode cd_TH_find 43 = .ok (.iload_n 1, 1) := by decide +kernel
theorem dc_TH_find_44 : decode cd_TH_find 44 = .ok (.if_icmp .ne 6, 3) := by decide +kernel
theorem dc_TH_find_47 : decode cd_TH_find 47 = .ok (.aload 5, 2) := by decide +kernel
theorem dc_TH_find_49 : decode cd_TH_find 49 = .ok (.areturn, 1) := by decide +kernel
theorem dc_TH_find_50 : decode cd_TH_find 50 = .ok (.aload 5, 2) := by decide +kernel
theorem dc_TH_find_52 : decode cd_TH_find 52 = .ok (.getfield 51, 3) := by decide +kernel
theorem dc_TH_find_55 : decode cd_TH_find 55 = .ok (.iload_n 1, 1) := by decide +kernel
theorem dc_TH_find_56 : decode cd_TH_find 56 = .ok (.if_icmp .ge 11, 3) := by decide +kernel
theorem dc_TH_find_59 : decode cd_TH_find 59 = .ok (.iload 4, 2) := by decide +kernel
theorem dc_TH_find_61 : decode cd_TH_find 61 = .ok (.iconst 1, 1) := by decide +kernel
theorem dc_TH_find_62 : decode cd_TH_find 62 = .ok (.iadd, 1) := by decide +kernel
theorem dc_TH_find_63 : decode cd_TH_find 63 = .ok (.istore_n 2, 1) := by decide +kernel
theorem dc_TH_find_64 : decode cd_TH_find 64 = .ok (.goto 8, 3) := by decide +kernel
theorem dc_TH_find_67 : decode cd_TH_find 67 = .ok (.iload 4, 2) := by decide +kernel
theorem dc_TH_find_69 : decode cd_TH_find 69 = .ok (.iconst 1, 1) := by decide +kernel
theorem dc_TH_find_70 : decode cd_TH_find 70 = .ok (.isub, 1) := by decide +kernel
theorem dc_TH_find_71 : decode cd_TH_find 71 = .ok (.istore_n 3, 1) := by decide +kernel
theorem dc_TH_find_72 : decode cd_TH_find 72 = .ok (.goto (-60), 3) := by decide +kernel
theorem dc_TH_find_75 : decode cd_TH_find 75 = .ok (.aconst_null, 1) := by decide +kernel
theorem dc_TH_find_76 : decode cd_TH_find 76 = .ok (.areturn, 1) := by decide +kernel
theorem dc_TH_point_0 : decode cd_TH_point 0 = .ok (.aload_n 0, 1) := by decide +kernel
theorem dc_TH_point_1 : decode cd_TH_point 1 = .ok (.iload_n 1, 1) := by decide +kernel
theorem dc_TH_point_2 : decode cd_TH_point 2 = .ok (.invokevirtual 54, 3) := by decide +kernel
theorem dc_TH_point_5 : decode cd_TH_point 5 = .ok (.astore_n 3, 1) := by decide +kernel
theorem dc_TH_point_6 : decode cd_TH_point 6 = .ok (.aload_n 0, 1) := by decide +kernel
theorem dc_TH_point_7 : decode cd_TH_point 7 = .ok (.iload_n 2, 1) := by decide +kernel
theorem dc_TH_point_8 : decode cd_TH_point 8 = .ok (.invokevirtual 54, 3) := by decide +kernel
theorem dc_TH_point_11 : decode cd_TH_point 11 = .ok (.astore 4, 2) := by decide +kernel
theorem dc_TH_point_13 : decode cd_TH_point 13 = .ok (.aload_n 3, 1) := by decide +kernel
theorem dc_TH_point_14 : decode cd_TH_point 14 = .ok (.ifnull 8, 3) := by decide +kernel
theorem dc_TH_point_17 : decode cd_TH_point 17 = .ok (.aload 4, 2) := by decide +kernel
theorem dc_TH_point_19 : decode cd_TH_point 19 = .ok (.ifnonnull 6, 3) := by decide +kernel
theorem dc_TH_point_22 : decode cd_TH_point 22 = .ok (.bipush (-2), 2) := by decide +kernel
theorem dc_TH_point_24 : decode cd_TH_point 24 = .ok (.ireturn, 1) := by decide +kernel
theorem dc_TH_point_25 : decode cd_TH_point 25 = .ok (.aload_n 0, 1) := by decide +kernel
theorem dc_TH_point_26 : decode cd_TH_point 26 = .ok (.aload_n 3, 1) := by decide +kernel
theorem dc_TH_point_27 : decode cd_TH_point 27 = .ok (.aload 4, 2) := by decide +kernel
theorem dc_TH_point_29 : decode cd_TH_point 29 = .ok (.iconst 0, 1) := by decide +kernel
theorem dc_TH_point_30 : decode cd_TH_point 30 = .ok (.invokevirtual 58, 3) := by decide +kernel
theorem dc_TH_point_33 : decode cd_TH_point 33 = .ok (.ireturn, 1) := by decide +kernel
theorem dc_TH_append_0 : decode cd_TH_append 0 = .ok (.aload_n 1, 1) := by decide +kernel
theorem dc_TH_append_1 : decode cd_TH_append 1 = .ok (.getfield 65, 3) := by decide +kernel
theorem dc_TH_append_4 : decode cd_TH_append 4 = .ok (.invokevirtual 36, 3) := by decide +kernel
theorem dc_TH_append_7 : decode cd_TH_append 7 = .ok (.sipush 300, 3) := by decide +kernel
theorem dc_TH_append_10 : decode cd_TH_append 10 = .ok (.if_icmp .lt 6, 3) := by decide +kernel
theorem dc_TH_append_13 : decode cd_TH_append 13 = .ok (.bipush (-3), 2) := by decide +kernel
theorem dc_TH_append_15 : decode cd_TH_append 15 = .ok (.ireturn, 1) := by decide +kernel
theorem dc_TH_append_16 : decode cd_TH_append 16 = .ok (.aload_n 2, 1) := by decide +kernel
theorem dc_TH_append_17 : decode cd_TH_append 17 = .ok (.invokestatic 78, 3) := by decide +kernel
theorem dc_TH_append_20 : decode cd_TH_append 20 = .ok (.aload_n 1, 1) := by decide +kernel
theorem dc_TH_append_21 : decode cd_TH_append 21 = .ok (.getfield 65, 3) := by decide +kernel
theorem dc_TH_append_24 : decode cd_TH_append 24 = .ok (.new 72, 3) := by decide +kernel
theorem dc_TH_append_27 : decode cd_TH_append 27 = .ok (.dup, 1) := by decide +kernel
theorem dc_TH_append_28 : decode cd_TH_append 28 = .ok (.aload_n 2, 1) := by decide +kernel
theorem dc_TH_append_29 : decode cd_TH_append 29 = .ok (.iload_n 3, 1) := by decide +kernel
theorem dc_TH_append_30 : decode cd_TH_append 30 = .ok (.invokespecial 82, 3) := by decide +kernel
theorem dc_TH_append_33 : decode cd_TH_append 33 = .ok (.invokevirtual 43, 3) := by decide +kernel
theorem dc_TH_append_36 : decode cd_TH_append 36 = .ok (.pop, 1) := by decide +kernel
theorem dc_TH_append_37 : decode cd_TH_append 37 = .ok (.aload_n 1, 1) := by decide +kernel
theorem dc_TH_append_38 : decode cd_TH_append 38 = .ok (.getfield 65, 3) := by decide +kernel
theorem dc_TH_append_41 : decode cd_TH_append 41 = .ok (.invokevirtual 36, 3) := by decide +kernel
theorem dc_TH_append_44 : decode cd_TH_append 44 = .ok (.ireturn, 1) := by decide +kernel
theorem dc_IT_init_0 : decode cd_IT_init 0 = .ok (.aload_n 0, 1) := by decide +kernel
theorem dc_IT_init_1 : decode cd_IT_init 1 = .ok (.invokespecial 1, 3) := by decide +kernel
theorem dc_IT_init_4 : decode cd_IT_init 4 = .ok (.aload_n 0, 1) := by decide +kernel
theorem dc_IT_init_5 : decode cd_IT_init 5 = .ok (.aload_n 1, 1) := by decide +kernel
theorem dc_IT_init_6 : decode cd_IT_init 6 = .ok (.putfield 7, 3) := by decide +kernel
theorem dc_IT_init_9 : decode cd_IT_init 9 = .ok (.aload_n 0, 1) := by decide +kernel
theorem dc_IT_init_10 : decode cd_IT_init 10 = .ok (.iload_n 2, 1) := by decide +kernel
theorem dc_IT_init_11 : decode cd_IT_init 11 = .ok (.putfield 13, 3) := by decide +kernel
theorem dc_IT_init_14 : decode cd_IT_init 14 = .ok (.return_, 1) := by decide +kernel
theorem dc_TH_note_0 : decode cd_TH_note 0 = .ok (.aload_n 0, 1) := by decide +kernel
theorem dc_TH_note_1 : decode cd_TH_note 1 = .ok (.iload_n 1, 1) := by decide +kernel
theorem dc_TH_note_2 : decode cd_TH_note 2 = .ok (.invokevirtual 54, 3) := by decide +kernel
theorem dc_TH_note_5 : decode cd_TH_note 5 = .ok (.astore_n 3, 1) := by decide +kernel
theorem dc_TH_note_6 : decode cd_TH_note 6 = .ok (.aload_n 3, 1) := by decide +kernel
theorem dc_TH_note_7 : decode cd_TH_note 7 = .ok (.ifnonnull 6, 3) := by decide +kernel
theorem dc_TH_note_10 : decode cd_TH_note 10 = .ok (.bipush (-2), 2) := by decide +kernel
theorem dc_TH_note_12 : decode cd_TH_note 12 = .ok (.ireturn, 1) := by decide +kernel
theorem dc_TH_note_13 : decode cd_TH_note 13 = .ok (.aload_n 0, 1) := by decide +kernel
theorem dc_TH_note_14 : decode cd_TH_note 14 = .ok (.aload_n 3, 1) := by decide +kernel
theorem dc_TH_note_15 : decode cd_TH_note 15 = .ok (.aconst_null, 1) := by decide +kernel
theorem dc_TH_note_16 : decode cd_TH_note 16 = .ok (.iload_n 2, 1) := by decide +kernel
theorem dc_TH_note_17 : decode cd_TH_note 17 = .ok (.invokevirtual 58, 3) := by decide +kernel
theorem dc_TH_note_20 : decode cd_TH_note 20 = .ok (.ireturn, 1) := by decide +kernel
theorem dc_TH_turn_0 : decode cd_TH_turn 0 = .ok (.aload_n 0, 1) := by decide +kernel
theorem dc_TH_turn_1 : decode cd_TH_turn 1 = .ok (.iload_n 1, 1) := by decide +kernel
theorem dc_TH_turn_2 : decode cd_TH_turn 2 = .ok (.invokevirtual 54, 3) := by decide +kernel
theorem dc_TH_turn_5 : decode cd_TH_turn 5 = .ok (.astore 4, 2) := by decide +kernel
theorem dc_TH_turn_7 : decode cd_TH_turn 7 = .ok (.aload_n 0, 1) := by decide +kernel
theorem dc_TH_turn_8 : decode cd_TH_turn 8 = .ok (.iload_n 3, 1) := by decide +kernel
theorem dc_TH_turn_9 : decode cd_TH_turn 9 = .ok (.invokevirtual 54, 3) := by decide +kernel
theorem dc_TH_turn_12 : decode cd_TH_turn 12 = .ok (.astore 5, 2) := by decide +kernel
theorem dc_TH_turn_14 : decode cd_TH_turn 14 = .ok (.aload 4, 2) := by decide +kernel
theorem dc_TH_turn_16 : decode cd_TH_turn 16 = .ok (.ifnull 17, 3) := by decide +kernel
theorem dc_TH_turn_19 : decode cd_TH_turn 19 = .ok (.aload 5, 2) := by decide +kernel
theorem dc_TH_turn_21 : decode cd_TH_turn 21 = .ok (.ifnull 12, 3) := by decide +kernel
theorem dc_TH_turn_24 : decode cd_TH_turn 24 = .ok (.aload 4, 2) := by decide +kernel
theorem dc_TH_turn_26 : decode cd_TH_turn 26 = .ok (.iload_n 2, 1) := by decide +kernel
theorem dc_TH_turn_27 : decode cd_TH_turn 27 = .ok (.invokevirtual 62, 3) := by decide +kernel
theorem dc_TH_turn_30 : decode cd_TH_turn 30 = .ok (.ifCond .ne 6, 3) := by decide +kernel
theorem dc_TH_turn_33 : decode cd_TH_turn 33 = .ok (.bipush (-2), 2) := by decide +kernel
theorem dc_TH_turn_35 : decode cd_TH_turn 35 = .ok (.ireturn, 1) := by decide +kernel
theorem dc_TH_turn_36 : decode cd_TH_turn 36 = .ok (.aload 4, 2) := by decide +kernel
theorem dc_TH_turn_38 : decode cd_TH_turn 38 = .ok (.getfield 65, 3) := by decide +kernel
theorem dc_TH_turn_41 : decode cd_TH_turn 41 = .ok (.iload_n 2, 1) := by decide +kernel
theorem dc_TH_turn_42 : decode cd_TH_turn 42 = .ok (.invokevirtual 68, 3) := by decide +kernel
theorem dc_TH_turn_45 : decode cd_TH_turn 45 = .ok (.checkcast 72, 3) := by decide +kernel
theorem dc_TH_turn_48 : decode cd_TH_turn 48 = .ok (.getfield 74, 3) := by decide +kernel
theorem dc_TH_turn_51 : decode cd_TH_turn 51 = .ok (.astore 6, 2) := by decide +kernel
theorem dc_TH_turn_53 : decode cd_TH_turn 53 = .ok (.aload 5, 2) := by decide +kernel
theorem dc_TH_turn_55 : decode cd_TH_turn 55 = .ok (.invokestatic 78, 3) := by decide +kernel
theorem dc_TH_turn_58 : decode cd_TH_turn 58 = .ok (.aload 4, 2) := by decide +kernel
theorem dc_TH_turn_60 : decode cd_TH_turn 60 = .ok (.getfield 65, 3) := by decide +kernel
theorem dc_TH_turn_63 : decode cd_TH_turn 63 = .ok (.iload_n 2, 1) := by decide +kernel
theorem dc_TH_turn_64 : decode cd_TH_turn 64 = .ok (.new 72, 3) := by decide +kernel
theorem dc_TH_turn_67 : decode cd_TH_turn 67 = .ok (.dup, 1) := by decide +kernel
theorem dc_TH_turn_68 : decode cd_TH_turn 68 = .ok (.aload 5, 2) := by decide +kernel
theorem dc_TH_turn_70 : decode cd_TH_turn 70 = .ok (.iconst 0, 1) := by decide +kernel
theorem dc_TH_turn_71 : decode cd_TH_turn 71 = .ok (.invokespecial 82, 3) := by decide +kernel
theorem dc_TH_turn_74 : decode cd_TH_turn 74 = .ok (.invokevirtual 85, 3) := by decide +kernel
theorem dc_TH_turn_77 : decode cd_TH_turn 77 = .ok (.pop, 1) := by decide +kernel
theorem dc_TH_turn_78 : decode cd_TH_turn 78 = .ok (.aload_n 0, 1) := by decide +kernel
theorem dc_TH_turn_79 : decode cd_TH_turn 79 = .ok (.aload 6, 2) := by decide +kernel
theorem dc_TH_turn_81 : decode cd_TH_turn 81 = .ok (.invokevirtual 89, 3) := by decide +kernel
theorem dc_TH_turn_84 : decode cd_TH_turn 84 = .ok (.aload_n 0, 1) := by decide +kernel
theorem dc_TH_turn_85 : decode cd_TH_turn 85 = .ok (.getfield 18, 3) := by decide +kernel
theorem dc_TH_turn_88 : decode cd_TH_turn 88 = .ok (.invokevirtual 36, 3) := by decide +kernel
theorem dc_TH_turn_91 : decode cd_TH_turn 91 = .ok (.ireturn, 1) := by decide +kernel
theorem dc_TG_hasItem_0 : decode cd_TG_hasItem 0 = .ok (.iload_n 1, 1) := by decide +kernel
theorem dc_TG_hasItem_1 : decode cd_TG_hasItem 1 = .ok (.ifCond .lt 18, 3) := by decide +kernel
theorem dc_TG_hasItem_4 : decode cd_TG_hasItem 4 = .ok (.iload_n 1, 1) := by decide +kernel
theorem dc_TG_hasItem_5 : decode cd_TG_hasItem 5 = .ok (.aload_n 0, 1) := by decide +kernel
theorem dc_TG_hasItem_6 : decode cd_TG_hasItem 6 = .ok (.getfield 10, 3) := by decide +kernel
theorem dc_TG_hasItem_9 : decode cd_TG_hasItem 9 = .ok (.invokevirtual 27, 3) := by decide +kernel
theorem dc_TG_hasItem_12 : decode cd_TG_hasItem 12 = .ok (.if_icmp .ge 7, 3) := by decide +kernel
theorem dc_TG_hasItem_15 : decode cd_TG_hasItem 15 = .ok (.iconst 1, 1) := by decide +kernel
theorem dc_TG_hasItem_16 : decode cd_TG_hasItem 16 = .ok (.goto 4, 3) := by decide +kernel
theorem dc_TG_hasItem_19 : decode cd_TG_hasItem 19 = .ok (.iconst 0, 1) := by decide +kernel
theorem dc_TG_hasItem_20 : decode cd_TG_hasItem 20 = .ok (.ireturn, 1) := by decide +kernel
theorem dc_TH_take_0 : decode cd_TH_take 0 = .ok (.aload_n 0, 1) := by decide +kernel
theorem dc_TH_take_1 : decode cd_TH_take 1 = .ok (.iload_n 1, 1) := by decide +kernel
theorem dc_TH_take_2 : decode cd_TH_take 2 = .ok (.invokevirtual 54, 3) := by decide +kernel
theorem dc_TH_take_5 : decode cd_TH_take 5 = .ok (.astore_n 3, 1) := by decide +kernel
theorem dc_TH_take_6 : decode cd_TH_take 6 = .ok (.aload_n 3, 1) := by decide +kernel
theorem dc_TH_take_7 : decode cd_TH_take 7 = .ok (.ifnull 11, 3) := by decide +kernel
theorem dc_TH_take_10 : decode cd_TH_take 10 = .ok (.aload_n 3, 1) := by decide +kernel
theorem dc_TH_take_11 : decode cd_TH_take 11 = .ok (.iload_n 2, 1) := by decide +kernel
theorem dc_TH_take_12 : decode cd_TH_take 12 = .ok (.invokevirtual 62, 3) := by decide +kernel
theorem dc_TH_take_15 : decode cd_TH_take 15 = .ok (.ifCond .ne 6, 3) := by decide +kernel
theorem dc_TH_take_18 : decode cd_TH_take 18 = .ok (.bipush (-2), 2) := by decide +kernel
theorem dc_TH_take_20 : decode cd_TH_take 20 = .ok (.ireturn, 1) := by decide +kernel
theorem dc_TH_take_21 : decode cd_TH_take 21 = .ok (.aload_n 3, 1) := by decide +kernel
theorem dc_TH_take_22 : decode cd_TH_take 22 = .ok (.getfield 65, 3) := by decide +kernel
theorem dc_TH_take_25 : decode cd_TH_take 25 = .ok (.iload_n 2, 1) := by decide +kernel
theorem dc_TH_take_26 : decode cd_TH_take 26 = .ok (.invokevirtual 68, 3) := by decide +kernel
theorem dc_TH_take_29 : decode cd_TH_take 29 = .ok (.checkcast 72, 3) := by decide +kernel
theorem dc_TH_take_32 : decode cd_TH_take 32 = .ok (.getfield 74, 3) := by decide +kernel
theorem dc_TH_take_35 : decode cd_TH_take 35 = .ok (.astore 4, 2) := by decide +kernel
theorem dc_TH_take_37 : decode cd_TH_take 37 = .ok (.aload_n 3, 1) := by decide +kernel
theorem dc_TH_take_38 : decode cd_TH_take 38 = .ok (.getfield 65, 3) := by decide +kernel
theorem dc_TH_take_41 : decode cd_TH_take 41 = .ok (.iload_n 2, 1) := by decide +kernel
theorem dc_TH_take_42 : decode cd_TH_take 42 = .ok (.invokevirtual 92, 3) := by decide +kernel
theorem dc_TH_take_45 : decode cd_TH_take 45 = .ok (.pop, 1) := by decide +kernel
theorem dc_TH_take_46 : decode cd_TH_take 46 = .ok (.aload_n 0, 1) := by decide +kernel
theorem dc_TH_take_47 : decode cd_TH_take 47 = .ok (.aload 4, 2) := by decide +kernel
theorem dc_TH_take_49 : decode cd_TH_take 49 = .ok (.invokevirtual 89, 3) := by decide +kernel
theorem dc_TH_take_52 : decode cd_TH_take 52 = .ok (.aload_n 0, 1) := by decide +kernel
theorem dc_TH_take_53 : decode cd_TH_take 53 = .ok (.getfield 18, 3) := by decide +kernel
theorem dc_TH_take_56 : decode cd_TH_take 56 = .ok (.invokevirtual 36, 3) := by decide +kernel
theorem dc_TH_take_59 : decode cd_TH_take 59 = .ok (.ireturn, 1) := by decide +kernel
theorem dc_TH_item_0 : decode cd_TH_item 0 = .ok (.aload_n 0, 1) := by decide +kernel
theorem dc_TH_item_1 : decode cd_TH_item 1 = .ok (.iload_n 1, 1) := by decide +kernel
theorem dc_TH_item_2 : decode cd_TH_item 2 = .ok (.invokevirtual 54, 3) := by decide +kernel
theorem dc_TH_item_5 : decode cd_TH_item 5 = .ok (.astore_n 3, 1) := by decide +kernel
theorem dc_TH_item_6 : decode cd_TH_item 6 = .ok (.aload_n 3, 1) := by decide +kernel
theorem dc_TH_item_7 : decode cd_TH_item 7 = .ok (.ifnull 11, 3) := by decide +kernel
theorem dc_TH_item_10 : decode cd_TH_item 10 = .ok (.aload_n 3, 1) := by decide +kernel
theorem dc_TH_item_11 : decode cd_TH_item 11 = .ok (.iload_n 2, 1) := by decide +kernel
theorem dc_TH_item_12 : decode cd_TH_item 12 = .ok (.invokevirtual 62, 3) := by decide +kernel
theorem dc_TH_item_15 : decode cd_TH_item 15 = .ok (.ifCond .ne 7, 3) := by decide +kernel
theorem dc_TH_item_18 : decode cd_TH_item 18 = .ok (.ldc2_w 95, 3) := by decide +kernel
theorem dc_TH_item_21 : decode cd_TH_item 21 = .ok (.lreturn, 1) := by decide +kernel
theorem dc_TH_item_22 : decode cd_TH_item 22 = .ok (.aload_n 3, 1) := by decide +kernel
theorem dc_TH_item_23 : decode cd_TH_item 23 = .ok (.getfield 65, 3) := by decide +kernel
theorem dc_TH_item_26 : decode cd_TH_item 26 = .ok (.iload_n 2, 1) := by decide +kernel
theorem dc_TH_item_27 : decode cd_TH_item 27 = .ok (.invokevirtual 68, 3) := by decide +kernel
theorem dc_TH_item_30 : decode cd_TH_item 30 = .ok (.checkcast 72, 3) := by decide +kernel
theorem dc_TH_item_33 : decode cd_TH_item 33 = .ok (.astore 4, 2) := by decide +kernel
theorem dc_TH_item_35 : decode cd_TH_item 35 = .ok (.aload 4, 2) := by decide +kernel
theorem dc_TH_item_37 : decode cd_TH_item 37 = .ok (.getfield 74, 3) := by decide +kernel
theorem dc_TH_item_40 : decode cd_TH_item 40 = .ok (.ifnonnull 12, 3) := by decide +kernel
theorem dc_TH_item_43 : decode cd_TH_item 43 = .ok (.aload 4, 2) := by decide +kernel
theorem dc_TH_item_45 : decode cd_TH_item 45 = .ok (.getfield 97, 3) := by decide +kernel
theorem dc_TH_item_48 : decode cd_TH_item 48 = .ok (.i2l, 1) := by decide +kernel
theorem dc_TH_item_49 : decode cd_TH_item 49 = .ok (.goto 16, 3) := by decide +kernel
theorem dc_TH_item_52 : decode cd_TH_item 52 = .ok (.ldc2_w 100, 3) := by decide +kernel
theorem dc_TH_item_55 : decode cd_TH_item 55 = .ok (.aload 4, 2) := by decide +kernel
theorem dc_TH_item_57 : decode cd_TH_item 57 = .ok (.getfield 74, 3) := by decide +kernel
theorem dc_TH_item_60 : decode cd_TH_item 60 = .ok (.getfield 51, 3) := by decide +kernel
theorem dc_TH_item_63 : decode cd_TH_item 63 = .ok (.i2l, 1) := by decide +kernel
theorem dc_TH_item_64 : decode cd_TH_item 64 = .ok (.ladd, 1) := by decide +kernel
theorem dc_TH_item_65 : decode cd_TH_item 65 = .ok (.lreturn, 1) := by decide +kernel
theorem dc_TH_held_0 : decode cd_TH_held 0 = .ok (.iload_n 1, 1) := by decide +kernel
theorem dc_TH_held_1 : decode cd_TH_held 1 = .ok (.invokestatic 32, 3) := by decide +kernel
theorem dc_TH_held_4 : decode cd_TH_held 4 = .ok (.ifCond .ne 5, 3) := by decide +kernel
theorem dc_TH_held_7 : decode cd_TH_held 7 = .ok (.iconst (-1), 1) := by decide +kernel
theorem dc_TH_held_8 : decode cd_TH_held 8 = .ok (.ireturn, 1) := by decide +kernel
theorem dc_TH_held_9 : decode cd_TH_held 9 = .ok (.aload_n 0, 1) := by decide +kernel
theorem dc_TH_held_10 : decode cd_TH_held 10 = .ok (.getfield 11, 3) := by decide +kernel
theorem dc_TH_held_13 : decode cd_TH_held 13 = .ok (.iload_n 1, 1) := by decide +kernel
theorem dc_TH_held_14 : decode cd_TH_held 14 = .ok (.aaload, 1) := by decide +kernel
theorem dc_TH_held_15 : decode cd_TH_held 15 = .ok (.astore_n 2, 1) := by decide +kernel
theorem dc_TH_held_16 : decode cd_TH_held 16 = .ok (.aload_n 2, 1) := by decide +kernel
theorem dc_TH_held_17 : decode cd_TH_held 17 = .ok (.ifnonnull 8, 3) := by decide +kernel
theorem dc_TH_held_20 : decode cd_TH_held 20 = .ok (.bipush (-2), 2) := by decide +kernel
theorem dc_TH_held_22 : decode cd_TH_held 22 = .ok (.goto 7, 3) := by decide +kernel
theorem dc_TH_held_25 : decode cd_TH_held 25 = .ok (.aload_n 2, 1) := by decide +kernel
theorem dc_TH_held_26 : decode cd_TH_held 26 = .ok (.getfield 51, 3) := by decide +kernel
theorem dc_TH_held_29 : decode cd_TH_held 29 = .ok (.ireturn, 1) := by decide +kernel
theorem dc_TH_holders_0 : decode cd_TH_holders 0 = .ok (.aload_n 0, 1) := by decide +kernel
theorem dc_TH_holders_1 : decode cd_TH_holders 1 = .ok (.iload_n 1, 1) := by decide +kernel
theorem dc_TH_holders_2 : decode cd_TH_holders 2 = .ok (.invokevirtual 54, 3) := by decide +kernel
theorem dc_TH_holders_5 : decode cd_TH_holders 5 = .ok (.astore_n 2, 1) := by decide +kernel
theorem dc_TH_holders_6 : decode cd_TH_holders 6 = .ok (.aload_n 2, 1) := by decide +kernel
theorem dc_TH_holders_7 : decode cd_TH_holders 7 = .ok (.ifnonnull 8, 3) := by decide +kernel
theorem dc_TH_holders_10 : decode cd_TH_holders 10 = .ok (.bipush (-2), 2) := by decide +kernel
theorem dc_TH_holders_12 : decode cd_TH_holders 12 = .ok (.goto 7, 3) := by decide +kernel
theorem dc_TH_holders_15 : decode cd_TH_holders 15 = .ok (.aload_n 2, 1) := by decide +kernel
theorem dc_TH_holders_16 : decode cd_TH_holders 16 = .ok (.getfield 102, 3) := by decide +kernel
theorem dc_TH_holders_19 : decode cd_TH_holders 19 = .ok (.ireturn, 1) := by decide +kernel
theorem dc_TH_items_0 : decode cd_TH_items 0 = .ok (.aload_n 0, 1) := by decide +kernel
theorem dc_TH_items_1 : decode cd_TH_items 1 = .ok (.iload_n 1, 1) := by decide +kernel
theorem dc_TH_items_2 : decode cd_TH_items 2 = .ok (.invokevirtual 54, 3) := by decide +kernel
theorem dc_TH_items_5 : decode cd_TH_items 5 = .ok (.astore_n 2, 1) := by decide +kernel
theorem dc_TH_items_6 : decode cd_TH_items 6 = .ok (.aload_n 2, 1) := by decide +kernel
theorem dc_TH_items_7 : decode cd_TH_items 7 = .ok (.ifnonnull 8, 3) := by decide +kernel
theorem dc_TH_items_10 : decode cd_TH_items 10 = .ok (.bipush (-2), 2) := by decide +kernel
theorem dc_TH_items_12 : decode cd_TH_items 12 = .ok (.goto 10, 3) := by decide +kernel
theorem dc_TH_items_15 : decode cd_TH_items 15 = .ok (.aload_n 2, 1) := by decide +kernel
theorem dc_TH_items_16 : decode cd_TH_items 16 = .ok (.getfield 65, 3) := by decide +kernel
theorem dc_TH_items_19 : decode cd_TH_items 19 = .ok (.invokevirtual 36, 3) := by decide +kernel
