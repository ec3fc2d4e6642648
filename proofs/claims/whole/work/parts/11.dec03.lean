theorem dc_TH_items_22 : decode cd_TH_items 22 = .ok (.ireturn, 1) := by decide +kernel
theorem dc_TH_collect_0 : decode cd_TH_collect 0 = .ok (.aload_n 0, 1) := by decide +kernel
theorem dc_TH_collect_1 : decode cd_TH_collect 1 = .ok (.getfield 18, 3) := by decide +kernel
theorem dc_TH_collect_4 : decode cd_TH_collect 4 = .ok (.invokevirtual 36, 3) := by decide +kernel
theorem dc_TH_collect_7 : decode cd_TH_collect 7 = .ok (.istore_n 1, 1) := by decide +kernel
theorem dc_TH_collect_8 : decode cd_TH_collect 8 = .ok (.aload_n 0, 1) := by decide +kernel
theorem dc_TH_collect_9 : decode cd_TH_collect 9 = .ok (.invokevirtual 105, 3) := by decide +kernel
theorem dc_TH_collect_12 : decode cd_TH_collect 12 = .ok (.iconst 0, 1) := by decide +kernel
theorem dc_TH_collect_13 : decode cd_TH_collect 13 = .ok (.istore_n 2, 1) := by decide +kernel
theorem dc_TH_collect_14 : decode cd_TH_collect 14 = .ok (.iload_n 2, 1) := by decide +kernel
theorem dc_TH_collect_15 : decode cd_TH_collect 15 = .ok (.iload_n 1, 1) := by decide +kernel
theorem dc_TH_collect_16 : decode cd_TH_collect 16 = .ok (.if_icmp .ge 33, 3) := by decide +kernel
theorem dc_TH_collect_19 : decode cd_TH_collect 19 = .ok (.aload_n 0, 1) := by decide +kernel
theorem dc_TH_collect_20 : decode cd_TH_collect 20 = .ok (.getfield 18, 3) := by decide +kernel
theorem dc_TH_collect_23 : decode cd_TH_collect 23 = .ok (.iload_n 2, 1) := by decide +kernel
theorem dc_TH_collect_24 : decode cd_TH_collect 24 = .ok (.invokevirtual 68, 3) := by decide +kernel
theorem dc_TH_collect_27 : decode cd_TH_collect 27 = .ok (.checkcast 9, 3) := by decide +kernel
theorem dc_TH_collect_30 : decode cd_TH_collect 30 = .ok (.astore_n 3, 1) := by decide +kernel
theorem dc_TH_collect_31 : decode cd_TH_collect 31 = .ok (.aload_n 3, 1) := by decide +kernel
theorem dc_TH_collect_32 : decode cd_TH_collect 32 = .ok (.getfield 108, 3) := by decide +kernel
theorem dc_TH_collect_35 : decode cd_TH_collect 35 = .ok (.ifCond .ne 8, 3) := by decide +kernel
theorem dc_TH_collect_38 : decode cd_TH_collect 38 = .ok (.aload_n 0, 1) := by decide +kernel
theorem dc_TH_collect_39 : decode cd_TH_collect 39 = .ok (.aload_n 3, 1) := by decide +kernel
theorem dc_TH_collect_40 : decode cd_TH_collect 40 = .ok (.invokevirtual 112, 3) := by decide +kernel
theorem dc_TH_collect_43 : decode cd_TH_collect 43 = .ok (.iinc 2 1, 3) := by decide +kernel
theorem dc_TH_collect_46 : decode cd_TH_collect 46 = .ok (.goto (-32), 3) := by decide +kernel
theorem dc_TH_collect_49 : decode cd_TH_collect 49 = .ok (.aload_n 0, 1) := by decide +kernel
theorem dc_TH_collect_50 : decode cd_TH_collect 50 = .ok (.invokevirtual 115, 3) := by decide +kernel
theorem dc_TH_collect_53 : decode cd_TH_collect 53 = .ok (.iload_n 1, 1) := by decide +kernel
theorem dc_TH_collect_54 : decode cd_TH_collect 54 = .ok (.aload_n 0, 1) := by decide +kernel
theorem dc_TH_collect_55 : decode cd_TH_collect 55 = .ok (.getfield 18, 3) := by decide +kernel
theorem dc_TH_collect_58 : decode cd_TH_collect 58 = .ok (.invokevirtual 36, 3) := by decide +kernel
theorem dc_TH_collect_61 : decode cd_TH_collect 61 = .ok (.isub, 1) := by decide +kernel
theorem dc_TH_collect_62 : decode cd_TH_collect 62 = .ok (.ireturn, 1) := by decide +kernel
theorem dc_TH_markReached_0 : decode cd_TH_markReached 0 = .ok (.aload_n 0, 1) := by decide +kernel
theorem dc_TH_markReached_1 : decode cd_TH_markReached 1 = .ok (.getfield 18, 3) := by decide +kernel
theorem dc_TH_markReached_4 : decode cd_TH_markReached 4 = .ok (.invokevirtual 36, 3) := by decide +kernel
theorem dc_TH_markReached_7 : decode cd_TH_markReached 7 = .ok (.istore_n 1, 1) := by decide +kernel
theorem dc_TH_markReached_8 : decode cd_TH_markReached 8 = .ok (.iconst 0, 1) := by decide +kernel
theorem dc_TH_markReached_9 : decode cd_TH_markReached 9 = .ok (.istore_n 2, 1) := by decide +kernel
theorem dc_TH_markReached_10 : decode cd_TH_markReached 10 = .ok (.iload_n 2, 1) := by decide +kernel
theorem dc_TH_markReached_11 : decode cd_TH_markReached 11 = .ok (.iload_n 1, 1) := by decide +kernel
theorem dc_TH_markReached_12 : decode cd_TH_markReached 12 = .ok (.if_icmp .ge 24, 3) := by decide +kernel
theorem dc_TH_markReached_15 : decode cd_TH_markReached 15 = .ok (.aload_n 0, 1) := by decide +kernel
theorem dc_TH_markReached_16 : decode cd_TH_markReached 16 = .ok (.getfield 18, 3) := by decide +kernel
theorem dc_TH_markReached_19 : decode cd_TH_markReached 19 = .ok (.iload_n 2, 1) := by decide +kernel
theorem dc_TH_markReached_20 : decode cd_TH_markReached 20 = .ok (.invokevirtual 68, 3) := by decide +kernel
theorem dc_TH_markReached_23 : decode cd_TH_markReached 23 = .ok (.checkcast 9, 3) := by decide +kernel
theorem dc_TH_markReached_26 : decode cd_TH_markReached 26 = .ok (.iconst 0, 1) := by decide +kernel
theorem dc_TH_markReached_27 : decode cd_TH_markReached 27 = .ok (.putfield 108, 3) := by decide +kernel
theorem dc_TH_markReached_30 : decode cd_TH_markReached 30 = .ok (.iinc 2 1, 3) := by decide +kernel
theorem dc_TH_markReached_33 : decode cd_TH_markReached 33 = .ok (.goto (-23), 3) := by decide +kernel
theorem dc_TH_markReached_36 : decode cd_TH_markReached 36 = .ok (.iconst 0, 1) := by decide +kernel
theorem dc_TH_markReached_37 : decode cd_TH_markReached 37 = .ok (.istore_n 2, 1) := by decide +kernel
theorem dc_TH_markReached_38 : decode cd_TH_markReached 38 = .ok (.iload_n 2, 1) := by decide +kernel
theorem dc_TH_markReached_39 : decode cd_TH_markReached 39 = .ok (.bipush 16, 2) := by decide +kernel
theorem dc_TH_markReached_41 : decode cd_TH_markReached 41 = .ok (.if_icmp .ge 19, 3) := by decide +kernel
theorem dc_TH_markReached_44 : decode cd_TH_markReached 44 = .ok (.aload_n 0, 1) := by decide +kernel
theorem dc_TH_markReached_45 : decode cd_TH_markReached 45 = .ok (.aload_n 0, 1) := by decide +kernel
theorem dc_TH_markReached_46 : decode cd_TH_markReached 46 = .ok (.getfield 11, 3) := by decide +kernel
theorem dc_TH_markReached_49 : decode cd_TH_markReached 49 = .ok (.iload_n 2, 1) := by decide +kernel
theorem dc_TH_markReached_50 : decode cd_TH_markReached 50 = .ok (.aaload, 1) := by decide +kernel
theorem dc_TH_markReached_51 : decode cd_TH_markReached 51 = .ok (.invokevirtual 131, 3) := by decide +kernel
theorem dc_TH_markReached_54 : decode cd_TH_markReached 54 = .ok (.iinc 2 1, 3) := by decide +kernel
theorem dc_TH_markReached_57 : decode cd_TH_markReached 57 = .ok (.goto (-19), 3) := by decide +kernel
theorem dc_TH_markReached_60 : decode cd_TH_markReached 60 = .ok (.iconst 0, 1) := by decide +kernel
theorem dc_TH_markReached_61 : decode cd_TH_markReached 61 = .ok (.istore_n 2, 1) := by decide +kernel
theorem dc_TH_markReached_62 : decode cd_TH_markReached 62 = .ok (.iload_n 2, 1) := by decide +kernel
theorem dc_TH_markReached_63 : decode cd_TH_markReached 63 = .ok (.aload_n 0, 1) := by decide +kernel
theorem dc_TH_markReached_64 : decode cd_TH_markReached 64 = .ok (.getfield 25, 3) := by decide +kernel
theorem dc_TH_markReached_67 : decode cd_TH_markReached 67 = .ok (.invokevirtual 36, 3) := by decide +kernel
theorem dc_TH_markReached_70 : decode cd_TH_markReached 70 = .ok (.if_icmp .ge 29, 3) := by decide +kernel
theorem dc_TH_markReached_73 : decode cd_TH_markReached 73 = .ok (.iload_n 2, 1) := by decide +kernel
theorem dc_TH_markReached_74 : decode cd_TH_markReached 74 = .ok (.iload_n 1, 1) := by decide +kernel
theorem dc_TH_markReached_75 : decode cd_TH_markReached 75 = .ok (.if_icmp .ge 24, 3) := by decide +kernel
theorem dc_TH_markReached_78 : decode cd_TH_markReached 78 = .ok (.aload_n 0, 1) := by decide +kernel
theorem dc_TH_markReached_79 : decode cd_TH_markReached 79 = .ok (.aload_n 0, 1) := by decide +kernel
theorem dc_TH_markReached_80 : decode cd_TH_markReached 80 = .ok (.getfield 25, 3) := by decide +kernel
theorem dc_TH_markReached_83 : decode cd_TH_markReached 83 = .ok (.iload_n 2, 1) := by decide +kernel
theorem dc_TH_markReached_84 : decode cd_TH_markReached 84 = .ok (.invokevirtual 68, 3) := by decide +kernel
theorem dc_TH_markReached_87 : decode cd_TH_markReached 87 = .ok (.checkcast 9, 3) := by decide +kernel
theorem dc_TH_markReached_90 : decode cd_TH_markReached 90 = .ok (.invokevirtual 134, 3) := by decide +kernel
theorem dc_TH_markReached_93 : decode cd_TH_markReached 93 = .ok (.iinc 2 1, 3) := by decide +kernel
theorem dc_TH_markReached_96 : decode cd_TH_markReached 96 = .ok (.goto (-34), 3) := by decide +kernel
theorem dc_TH_markReached_99 : decode cd_TH_markReached 99 = .ok (.aload_n 0, 1) := by decide +kernel
theorem dc_TH_markReached_100 : decode cd_TH_markReached 100 = .ok (.getfield 25, 3) := by decide +kernel
theorem dc_TH_markReached_103 : decode cd_TH_markReached 103 = .ok (.invokevirtual 121, 3) := by decide +kernel
theorem dc_TH_markReached_106 : decode cd_TH_markReached 106 = .ok (.return_, 1) := by decide +kernel
theorem dc_TH_reach_0 : decode cd_TH_reach 0 = .ok (.aload_n 1, 1) := by decide +kernel
theorem dc_TH_reach_1 : decode cd_TH_reach 1 = .ok (.ifnull 24, 3) := by decide +kernel
theorem dc_TH_reach_4 : decode cd_TH_reach 4 = .ok (.aload_n 1, 1) := by decide +kernel
theorem dc_TH_reach_5 : decode cd_TH_reach 5 = .ok (.getfield 108, 3) := by decide +kernel
theorem dc_TH_reach_8 : decode cd_TH_reach 8 = .ok (.ifCond .ne 17, 3) := by decide +kernel
theorem dc_TH_reach_11 : decode cd_TH_reach 11 = .ok (.aload_n 1, 1) := by decide +kernel
theorem dc_TH_reach_12 : decode cd_TH_reach 12 = .ok (.iconst 1, 1) := by decide +kernel
theorem dc_TH_reach_13 : decode cd_TH_reach 13 = .ok (.putfield 108, 3) := by decide +kernel
theorem dc_TH_reach_16 : decode cd_TH_reach 16 = .ok (.aload_n 0, 1) := by decide +kernel
theorem dc_TH_reach_17 : decode cd_TH_reach 17 = .ok (.getfield 25, 3) := by decide +kernel
theorem dc_TH_reach_20 : decode cd_TH_reach 20 = .ok (.aload_n 1, 1) := by decide +kernel
theorem dc_TH_reach_21 : decode cd_TH_reach 21 = .ok (.invokevirtual 43, 3) := by decide +kernel
theorem dc_TH_reach_24 : decode cd_TH_reach 24 = .ok (.pop, 1) := by decide +kernel
theorem dc_TH_reach_25 : decode cd_TH_reach 25 = .ok (.return_, 1) := by decide +kernel
theorem dc_TH_reachItems_0 : decode cd_TH_reachItems 0 = .ok (.iconst 0, 1) := by decide +kernel
theorem dc_TH_reachItems_1 : decode cd_TH_reachItems 1 = .ok (.istore_n 2, 1) := by decide +kernel
theorem dc_TH_reachItems_2 : decode cd_TH_reachItems 2 = .ok (.iload_n 2, 1) := by decide +kernel
theorem dc_TH_reachItems_3 : decode cd_TH_reachItems 3 = .ok (.aload_n 1, 1) := by decide +kernel
theorem dc_TH_reachItems_4 : decode cd_TH_reachItems 4 = .ok (.getfield 65, 3) := by decide +kernel
theorem dc_TH_reachItems_7 : decode cd_TH_reachItems 7 = .ok (.invokevirtual 36, 3) := by decide +kernel
theorem dc_TH_reachItems_10 : decode cd_TH_reachItems 10 = .ok (.if_icmp .ge 27, 3) := by decide +kernel
theorem dc_TH_reachItems_13 : decode cd_TH_reachItems 13 = .ok (.aload_n 0, 1) := by decide +kernel
theorem dc_TH_reachItems_14 : decode cd_TH_reachItems 14 = .ok (.aload_n 1, 1) := by decide +kernel
theorem dc_TH_reachItems_15 : decode cd_TH_reachItems 15 = .ok (.getfield 65, 3) := by decide +kernel
theorem dc_TH_reachItems_18 : decode cd_TH_reachItems 18 = .ok (.iload_n 2, 1) := by decide +kernel
theorem dc_TH_reachItems_19 : decode cd_TH_reachItems 19 = .ok (.invokevirtual 68, 3) := by decide +kernel
theorem dc_TH_reachItems_22 : decode cd_TH_reachItems 22 = .ok (.checkcast 72, 3) := by decide +kernel
theorem dc_TH_reachItems_25 : decode cd_TH_reachItems 25 = .ok (.getfield 74, 3) := by decide +kernel
theorem dc_TH_reachItems_28 : decode cd_TH_reachItems 28 = .ok (.invokevirtual 131, 3) := by decide +kernel
theorem dc_TH_reachItems_31 : decode cd_TH_reachItems 31 = .ok (.iinc 2 1, 3) := by decide +kernel
theorem dc_TH_reachItems_34 : decode cd_TH_reachItems 34 = .ok (.goto (-32), 3) := by decide +kernel
theorem dc_TH_reachItems_37 : decode cd_TH_reachItems 37 = .ok (.return_, 1) := by decide +kernel
theorem dc_TH_count1_0 : decode cd_TH_count1 0 = .ok (.iload_n 1, 1) := by decide +kernel
theorem dc_TH_count1_1 : decode cd_TH_count1 1 = .ok (.lookupswitch 40 #[(0, 27), (1, 35)], 27) := by decide +kernel
theorem dc_TH_count1_28 : decode cd_TH_count1 28 = .ok (.aload_n 0, 1) := by decide +kernel
theorem dc_TH_count1_29 : decode cd_TH_count1 29 = .ok (.getfield 18, 3) := by decide +kernel
theorem dc_TH_count1_32 : decode cd_TH_count1 32 = .ok (.invokevirtual 36, 3) := by decide +kernel
theorem dc_TH_count1_35 : decode cd_TH_count1 35 = .ok (.ireturn, 1) := by decide +kernel
theorem dc_TH_count1_36 : decode cd_TH_count1 36 = .ok (.aload_n 0, 1) := by decide +kernel
theorem dc_TH_count1_37 : decode cd_TH_count1 37 = .ok (.getfield 28, 3) := by decide +kernel
theorem dc_TH_count1_40 : decode cd_TH_count1 40 = .ok (.ireturn, 1) := by decide +kernel
theorem dc_TH_count1_41 : decode cd_TH_count1 41 = .ok (.iconst (-1), 1) := by decide +kernel
theorem dc_TH_count1_42 : decode cd_TH_count1 42 = .ok (.ireturn, 1) := by decide +kernel
theorem dc_MO_init_0 : decode cd_MO_init 0 = .ok (.aload_n 0, 1) := by decide +kernel
theorem dc_MO_init_1 : decode cd_MO_init 1 = .ok (.invokespecial 1, 3) := by decide +kernel
theorem dc_MO_init_4 : decode cd_MO_init 4 = .ok (.aload_n 0, 1) := by decide +kernel
theorem dc_MO_init_5 : decode cd_MO_init 5 = .ok (.bipush 64, 2) := by decide +kernel
theorem dc_MO_init_7 : decode cd_MO_init 7 = .ok (.anewarray 7, 3) := by decide +kernel
theorem dc_MO_init_10 : decode cd_MO_init 10 = .ok (.putfield 9, 3) := by decide +kernel
theorem dc_MO_init_13 : decode cd_MO_init 13 = .ok (.aload_n 0, 1) := by decide +kernel
theorem dc_MO_init_14 : decode cd_MO_init 14 = .ok (.bipush 64, 2) := by decide +kernel
theorem dc_MO_init_16 : decode cd_MO_init 16 = .ok (.newarray .int, 2) := by decide +kernel
theorem dc_MO_init_18 : decode cd_MO_init 18 = .ok (.putfield 15, 3) := by decide +kernel
theorem dc_MO_init_21 : decode cd_MO_init 21 = .ok (.aload_n 0, 1) := by decide +kernel
theorem dc_MO_init_22 : decode cd_MO_init 22 = .ok (.bipush 64, 2) := by decide +kernel
theorem dc_MO_init_24 : decode cd_MO_init 24 = .ok (.newarray .int, 2) := by decide +kernel
theorem dc_MO_init_26 : decode cd_MO_init 26 = .ok (.putfield 19, 3) := by decide +kernel
theorem dc_MO_init_29 : decode cd_MO_init 29 = .ok (.aload_n 0, 1) := by decide +kernel
theorem dc_MO_init_30 : decode cd_MO_init 30 = .ok (.bipush 64, 2) := by decide +kernel
theorem dc_MO_init_32 : decode cd_MO_init 32 = .ok (.newarray .int, 2) := by decide +kernel
theorem dc_MO_init_34 : decode cd_MO_init 34 = .ok (.putfield 22, 3) := by decide +kernel
theorem dc_MO_init_37 : decode cd_MO_init 37 = .ok (.aload_n 0, 1) := by decide +kernel
theorem dc_MO_init_38 : decode cd_MO_init 38 = .ok (.bipush 64, 2) := by decide +kernel
theorem dc_MO_init_40 : decode cd_MO_init 40 = .ok (.newarray .int, 2) := by decide +kernel
theorem dc_MO_init_42 : decode cd_MO_init 42 = .ok (.putfield 25, 3) := by decide +kernel
theorem dc_MO_init_45 : decode cd_MO_init 45 = .ok (.aload_n 0, 1) := by decide +kernel
theorem dc_MO_init_46 : decode cd_MO_init 46 = .ok (.bipush 16, 2) := by decide +kernel
theorem dc_MO_init_48 : decode cd_MO_init 48 = .ok (.newarray .int, 2) := by decide +kernel
theorem dc_MO_init_50 : decode cd_MO_init 50 = .ok (.putfield 28, 3) := by decide +kernel
theorem dc_MO_init_53 : decode cd_MO_init 53 = .ok (.aload_n 0, 1) := by decide +kernel
theorem dc_MO_init_54 : decode cd_MO_init 54 = .ok (.getfield 28, 3) := by decide +kernel
theorem dc_MO_init_57 : decode cd_MO_init 57 = .ok (.iconst (-1), 1) := by decide +kernel
theorem dc_MO_init_58 : decode cd_MO_init 58 = .ok (.invokestatic 31, 3) := by decide +kernel
theorem dc_MO_init_61 : decode cd_MO_init 61 = .ok (.return_, 1) := by decide +kernel
theorem dc_AR_fill2_0 : decode cd_AR_fill2 0 = .ok (.iconst 0, 1) := by decide +kernel
theorem dc_AR_fill2_1 : decode cd_AR_fill2 1 = .ok (.istore_n 2, 1) := by decide +kernel
theorem dc_AR_fill2_2 : decode cd_AR_fill2 2 = .ok (.aload_n 0, 1) := by decide +kernel
theorem dc_AR_fill2_3 : decode cd_AR_fill2 3 = .ok (.arraylength, 1) := by decide +kernel
theorem dc_AR_fill2_4 : decode cd_AR_fill2 4 = .ok (.istore_n 3, 1) := by decide +kernel
theorem dc_AR_fill2_5 : decode cd_AR_fill2 5 = .ok (.iload_n 2, 1) := by decide +kernel
theorem dc_AR_fill2_6 : decode cd_AR_fill2 6 = .ok (.iload_n 3, 1) := by decide +kernel
theorem dc_AR_fill2_7 : decode cd_AR_fill2 7 = .ok (.if_icmp .ge 13, 3) := by decide +kernel
theorem dc_AR_fill2_10 : decode cd_AR_fill2 10 = .ok (.aload_n 0, 1) := by decide +kernel
theorem dc_AR_fill2_11 : decode cd_AR_fill2 11 = .ok (.iload_n 2, 1) := by decide +kernel
theorem dc_AR_fill2_12 : decode cd_AR_fill2 12 = .ok (.iload_n 1, 1) := by decide +kernel
theorem dc_AR_fill2_13 : decode cd_AR_fill2 13 = .ok (.iastore, 1) := by decide +kernel
theorem dc_AR_fill2_14 : decode cd_AR_fill2 14 = .ok (.iinc 2 1, 3) := by decide +kernel
theorem dc_AR_fill2_17 : decode cd_AR_fill2 17 = .ok (.goto (-12), 3) := by decide +kernel
theorem dc_AR_fill2_20 : decode cd_AR_fill2 20 = .ok (.return_, 1) := by decide +kernel
theorem dc_MO_make_0 : decode cd_MO_make 0 = .ok (.iload_n 1, 1) := by decide +kernel
theorem dc_MO_make_1 : decode cd_MO_make 1 = .ok (.iconst 0, 1) := by decide +kernel
theorem dc_MO_make_2 : decode cd_MO_make 2 = .ok (.bipush 15, 2) := by decide +kernel
theorem dc_MO_make_4 : decode cd_MO_make 4 = .ok (.invokestatic 41, 3) := by decide +kernel
theorem dc_MO_make_7 : decode cd_MO_make 7 = .ok (.ifCond .ne 5, 3) := by decide +kernel
theorem dc_MO_make_10 : decode cd_MO_make 10 = .ok (.iconst (-1), 1) := by decide +kernel
theorem dc_MO_make_11 : decode cd_MO_make 11 = .ok (.ireturn, 1) := by decide +kernel
theorem dc_MO_make_12 : decode cd_MO_make 12 = .ok (.aload_n 0, 1) := by decide +kernel
theorem dc_MO_make_13 : decode cd_MO_make 13 = .ok (.getfield 58, 3) := by decide +kernel
theorem dc_MO_make_16 : decode cd_MO_make 16 = .ok (.sipush 1500, 3) := by decide +kernel
theorem dc_MO_make_19 : decode cd_MO_make 19 = .ok (.if_icmp .ne 6, 3) := by decide +kernel
theorem dc_MO_make_22 : decode cd_MO_make 22 = .ok (.bipush (-3), 2) := by decide +kernel
theorem dc_MO_make_24 : decode cd_MO_make 24 = .ok (.ireturn, 1) := by decide +kernel
theorem dc_MO_make_25 : decode cd_MO_make 25 = .ok (.aload_n 0, 1) := by decide +kernel
theorem dc_MO_make_26 : decode cd_MO_make 26 = .ok (.getfield 37, 3) := by decide +kernel
theorem dc_MO_make_29 : decode cd_MO_make 29 = .ok (.aload_n 0, 1) := by decide +kernel
theorem dc_MO_make_30 : decode cd_MO_make 30 = .ok (.getfield 15, 3) := by decide +kernel
theorem dc_MO_make_33 : decode cd_MO_make 33 = .ok (.arraylength, 1) := by decide +kernel
theorem dc_MO_make_34 : decode cd_MO_make 34 = .ok (.if_icmp .ne 7, 3) := by decide +kernel
theorem dc_MO_make_37 : decode cd_MO_make 37 = .ok (.aload_n 0, 1) := by decide +kernel
theorem dc_MO_make_38 : decode cd_MO_make 38 = .ok (.invokevirtual 68, 3) := by decide +kernel
theorem dc_MO_make_41 : decode cd_MO_make 41 = .ok (.aload_n 0, 1) := by decide +kernel
theorem dc_MO_make_42 : decode cd_MO_make 42 = .ok (.getfield 9, 3) := by decide +kernel
theorem dc_MO_make_45 : decode cd_MO_make 45 = .ok (.aload_n 0, 1) := by decide +kernel
theorem dc_MO_make_46 : decode cd_MO_make 46 = .ok (.getfield 37, 3) := by decide +kernel
theorem dc_MO_make_49 : decode cd_MO_make 49 = .ok (.aaload, 1) := by decide +kernel
theorem dc_MO_make_50 : decode cd_MO_make 50 = .ok (.ifnonnull 15, 3) := by decide +kernel
theorem dc_MO_make_53 : decode cd_MO_make 53 = .ok (.aload_n 0, 1) := by decide +kernel
theorem dc_MO_make_54 : decode cd_MO_make 54 = .ok (.getfield 9, 3) := by decide +kernel
theorem dc_MO_make_57 : decode cd_MO_make 57 = .ok (.aload_n 0, 1) := by decide +kernel
theorem dc_MO_make_58 : decode cd_MO_make 58 = .ok (.getfield 37, 3) := by decide +kernel
theorem dc_MO_make_61 : decode cd_MO_make 61 = .ok (.iconst 4, 1) := by decide +kernel
theorem dc_MO_make_62 : decode cd_MO_make 62 = .ok (.newarray .long, 2) := by decide +kernel
theorem dc_MO_make_64 : decode cd_MO_make 64 = .ok (.aastore, 1) := by decide +kernel
theorem dc_MO_make_65 : decode cd_MO_make 65 = .ok (.aload_n 0, 1) := by decide +kernel
theorem dc_MO_make_66 : decode cd_MO_make 66 = .ok (.getfield 15, 3) := by decide +kernel
theorem dc_MO_make_69 : decode cd_MO_make 69 = .ok (.aload_n 0, 1) := by decide +kernel
theorem dc_MO_make_70 : decode cd_MO_make 70 = .ok (.getfield 37, 3) := by decide +kernel
theorem dc_MO_make_73 : decode cd_MO_make 73 = .ok (.iconst 0, 1) := by decide +kernel
theorem dc_MO_make_74 : decode cd_MO_make 74 = .ok (.iastore, 1) := by decide +kernel
theorem dc_MO_make_75 : decode cd_MO_make 75 = .ok (.aload_n 0, 1) := by decide +kernel
theorem dc_MO_make_76 : decode cd_MO_make 76 = .ok (.getfield 19, 3) := by decide +kernel
theorem dc_MO_make_79 : decode cd_MO_make 79 = .ok (.aload_n 0, 1) := by decide +kernel
theorem dc_MO_make_80 : decode cd_MO_make 80 = .ok (.getfield 37, 3) := by decide +kernel
theorem dc_MO_make_83 : decode cd_MO_make 83 = .ok (.iconst 1, 1) := by decide +kernel
theorem dc_MO_make_84 : decode cd_MO_make 84 = .ok (.iastore, 1) := by decide +kernel
theorem dc_MO_make_85 : decode cd_MO_make 85 = .ok (.aload_n 0, 1) := by decide +kernel
theorem dc_MO_make_86 : decode cd_MO_make 86 = .ok (.dup, 1) := by decide +kernel
theorem dc_MO_make_87 : decode cd_MO_make 87 = .ok (.getfield 58, 3) := by decide +kernel
theorem dc_MO_make_90 : decode cd_MO_make 90 = .ok (.iconst 1, 1) := by decide +kernel
theorem dc_MO_make_91 : decode cd_MO_make 91 = .ok (.iadd, 1) := by decide +kernel
theorem dc_MO_make_92 : decode cd_MO_make 92 = .ok (.putfield 58, 3) := by decide +kernel
theorem dc_MO_make_95 : decode cd_MO_make 95 = .ok (.aload_n 0, 1) := by decide +kernel
theorem dc_MO_make_96 : decode cd_MO_make 96 = .ok (.getfield 28, 3) := by decide +kernel
theorem dc_MO_make_99 : decode cd_MO_make 99 = .ok (.iload_n 1, 1) := by decide +kernel
theorem dc_MO_make_100 : decode cd_MO_make 100 = .ok (.aload_n 0, 1) := by decide +kernel
theorem dc_MO_make_101 : decode cd_MO_make 101 = .ok (.getfield 37, 3) := by decide +kernel
theorem dc_MO_make_104 : decode cd_MO_make 104 = .ok (.iastore, 1) := by decide +kernel
theorem dc_MO_make_105 : decode cd_MO_make 105 = .ok (.aload_n 0, 1) := by decide +kernel
theorem dc_MO_make_106 : decode cd_MO_make 106 = .ok (.dup, 1) := by decide +kernel
theorem dc_MO_make_107 : decode cd_MO_make 107 = .ok (.getfield 37, 3) := by decide +kernel
theorem dc_MO_make_110 : decode cd_MO_make 110 = .ok (.iconst 1, 1) := by decide +kernel
theorem dc_MO_make_111 : decode cd_MO_make 111 = .ok (.iadd, 1) := by decide +kernel
theorem dc_MO_make_112 : decode cd_MO_make 112 = .ok (.putfield 37, 3) := by decide +kernel
theorem dc_MO_make_115 : decode cd_MO_make 115 = .ok (.aload_n 0, 1) := by decide +kernel
theorem dc_MO_make_116 : decode cd_MO_make 116 = .ok (.invokevirtual 71, 3) := by decide +kernel
theorem dc_MO_make_119 : decode cd_MO_make 119 = .ok (.aload_n 0, 1) := by decide +kernel
theorem dc_MO_make_120 : decode cd_MO_make 120 = .ok (.getfield 37, 3) := by decide +kernel
theorem dc_MO_make_123 : decode cd_MO_make 123 = .ok (.iconst 1, 1) := by decide +kernel
theorem dc_MO_make_124 : decode cd_MO_make 124 = .ok (.isub, 1) := by decide +kernel
theorem dc_MO_make_125 : decode cd_MO_make 125 = .ok (.ireturn, 1) := by decide +kernel
theorem dc_MO_in_0 : decode cd_MO_in 0 = .ok (.iload_n 0, 1) := by decide +kernel
theorem dc_MO_in_1 : decode cd_MO_in 1 = .ok (.iload_n 1, 1) := by decide +kernel
theorem dc_MO_in_2 : decode cd_MO_in 2 = .ok (.if_icmp .lt 12, 3) := by decide +kernel
theorem dc_MO_in_5 : decode cd_MO_in 5 = .ok (.iload_n 0, 1) := by decide +kernel
theorem dc_MO_in_6 : decode cd_MO_in 6 = .ok (.iload_n 2, 1) := by decide +kernel
theorem dc_MO_in_7 : decode cd_MO_in 7 = .ok (.if_icmp .gt 7, 3) := by decide +kernel
theorem dc_MO_in_10 : decode cd_MO_in 10 = .ok (.iconst 1, 1) := by decide +kernel
theorem dc_MO_in_11 : decode cd_MO_in 11 = .ok (.goto 4, 3) := by decide +kernel
theorem dc_MO_in_14 : decode cd_MO_in 14 = .ok (.iconst 0, 1) := by decide +kernel
theorem dc_MO_in_15 : decode cd_MO_in 15 = .ok (.ireturn, 1) := by decide +kernel
theorem dc_MO_grow_0 : decode cd_MO_grow 0 = .ok (.iconst 2, 1) := by decide +kernel
theorem dc_MO_grow_1 : decode cd_MO_grow 1 = .ok (.aload_n 0, 1) := by decide +kernel
theorem dc_MO_grow_2 : decode cd_MO_grow 2 = .ok (.getfield 37, 3) := by decide +kernel
theorem dc_MO_grow_5 : decode cd_MO_grow 5 = .ok (.imul, 1) := by decide +kernel
theorem dc_MO_grow_6 : decode cd_MO_grow 6 = .ok (.istore_n 1, 1) := by decide +kernel
theorem dc_MO_grow_7 : decode cd_MO_grow 7 = .ok (.iload_n 1, 1) := by decide +kernel
theorem dc_MO_grow_8 : decode cd_MO_grow 8 = .ok (.anewarray 7, 3) := by decide +kernel
theorem dc_MO_grow_11 : decode cd_MO_grow 11 = .ok (.astore_n 2, 1) := by decide +kernel
theorem dc_MO_grow_12 : decode cd_MO_grow 12 = .ok (.iconst 0, 1) := by decide +kernel
theorem dc_MO_grow_13 : decode cd_MO_grow 13 = .ok (.istore_n 3, 1) := by decide +kernel
theorem dc_MO_grow_14 : decode cd_MO_grow 14 = .ok (.iload_n 3, 1) := by decide +kernel
theorem dc_MO_grow_15 : decode cd_MO_grow 15 = .ok (.aload_n 0, 1) := by decide +kernel
theorem dc_MO_grow_16 : decode cd_MO_grow 16 = .ok (.getfield 37, 3) := by decide +kernel
theorem dc_MO_grow_19 : decode cd_MO_grow 19 = .ok (.if_icmp .ge 18, 3) := by decide +kernel
theorem dc_MO_grow_22 : decode cd_MO_grow 22 = .ok (.aload_n 2, 1) := by decide +kernel
theorem dc_MO_grow_23 : decode cd_MO_grow 23 = .ok (.iload_n 3, 1) := by decide +kernel
theorem dc_MO_grow_24 : decode cd_MO_grow 24 = .ok (.aload_n 0, 1) := by decide +kernel
theorem dc_MO_grow_25 : decode cd_MO_grow 25 = .ok (.getfield 9, 3) := by decide +kernel
theorem dc_MO_grow_28 : decode cd_MO_grow 28 = .ok (.iload_n 3, 1) := by decide +kernel
theorem dc_MO_grow_29 : decode cd_MO_grow 29 = .ok (.aaload, 1) := by decide +kernel
theorem dc_MO_grow_30 : decode cd_MO_grow 30 = .ok (.aastore, 1) := by decide +kernel
theorem dc_MO_grow_31 : decode cd_MO_grow 31 = .ok (.iinc 3 1, 3) := by decide +kernel
