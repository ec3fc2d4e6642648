theorem dc_MO_grow_34 : decode cd_MO_grow 34 = .ok (.goto (-20), 3) := by decide +kernel
theorem dc_MO_grow_37 : decode cd_MO_grow 37 = .ok (.aload_n 0, 1) := by decide +kernel
theorem dc_MO_grow_38 : decode cd_MO_grow 38 = .ok (.aload_n 2, 1) := by decide +kernel
theorem dc_MO_grow_39 : decode cd_MO_grow 39 = .ok (.putfield 9, 3) := by decide +kernel
theorem dc_MO_grow_42 : decode cd_MO_grow 42 = .ok (.aload_n 0, 1) := by decide +kernel
theorem dc_MO_grow_43 : decode cd_MO_grow 43 = .ok (.aload_n 0, 1) := by decide +kernel
theorem dc_MO_grow_44 : decode cd_MO_grow 44 = .ok (.getfield 15, 3) := by decide +kernel
theorem dc_MO_grow_47 : decode cd_MO_grow 47 = .ok (.iload_n 1, 1) := by decide +kernel
theorem dc_MO_grow_48 : decode cd_MO_grow 48 = .ok (.invokestatic 45, 3) := by decide +kernel
theorem dc_MO_grow_51 : decode cd_MO_grow 51 = .ok (.putfield 15, 3) := by decide +kernel
theorem dc_MO_grow_54 : decode cd_MO_grow 54 = .ok (.aload_n 0, 1) := by decide +kernel
theorem dc_MO_grow_55 : decode cd_MO_grow 55 = .ok (.aload_n 0, 1) := by decide +kernel
theorem dc_MO_grow_56 : decode cd_MO_grow 56 = .ok (.getfield 19, 3) := by decide +kernel
theorem dc_MO_grow_59 : decode cd_MO_grow 59 = .ok (.iload_n 1, 1) := by decide +kernel
theorem dc_MO_grow_60 : decode cd_MO_grow 60 = .ok (.invokestatic 45, 3) := by decide +kernel
theorem dc_MO_grow_63 : decode cd_MO_grow 63 = .ok (.putfield 19, 3) := by decide +kernel
theorem dc_MO_grow_66 : decode cd_MO_grow 66 = .ok (.aload_n 0, 1) := by decide +kernel
theorem dc_MO_grow_67 : decode cd_MO_grow 67 = .ok (.aload_n 0, 1) := by decide +kernel
theorem dc_MO_grow_68 : decode cd_MO_grow 68 = .ok (.getfield 22, 3) := by decide +kernel
theorem dc_MO_grow_71 : decode cd_MO_grow 71 = .ok (.iload_n 1, 1) := by decide +kernel
theorem dc_MO_grow_72 : decode cd_MO_grow 72 = .ok (.invokestatic 45, 3) := by decide +kernel
theorem dc_MO_grow_75 : decode cd_MO_grow 75 = .ok (.putfield 22, 3) := by decide +kernel
theorem dc_MO_grow_78 : decode cd_MO_grow 78 = .ok (.aload_n 0, 1) := by decide +kernel
theorem dc_MO_grow_79 : decode cd_MO_grow 79 = .ok (.aload_n 0, 1) := by decide +kernel
theorem dc_MO_grow_80 : decode cd_MO_grow 80 = .ok (.getfield 25, 3) := by decide +kernel
theorem dc_MO_grow_83 : decode cd_MO_grow 83 = .ok (.iload_n 1, 1) := by decide +kernel
theorem dc_MO_grow_84 : decode cd_MO_grow 84 = .ok (.invokestatic 45, 3) := by decide +kernel
theorem dc_MO_grow_87 : decode cd_MO_grow 87 = .ok (.putfield 25, 3) := by decide +kernel
theorem dc_MO_grow_90 : decode cd_MO_grow 90 = .ok (.return_, 1) := by decide +kernel
theorem dc_AR_copyOfI_0 : decode cd_AR_copyOfI 0 = .ok (.iload_n 1, 1) := by decide +kernel
theorem dc_AR_copyOfI_1 : decode cd_AR_copyOfI 1 = .ok (.aload_n 0, 1) := by decide +kernel
theorem dc_AR_copyOfI_2 : decode cd_AR_copyOfI 2 = .ok (.arraylength, 1) := by decide +kernel
theorem dc_AR_copyOfI_3 : decode cd_AR_copyOfI 3 = .ok (.if_icmp .ne 11, 3) := by decide +kernel
theorem dc_AR_copyOfI_6 : decode cd_AR_copyOfI 6 = .ok (.aload_n 0, 1) := by decide +kernel
theorem dc_AR_copyOfI_7 : decode cd_AR_copyOfI 7 = .ok (.invokevirtual 316, 3) := by decide +kernel
theorem dc_AR_copyOfI_10 : decode cd_AR_copyOfI 10 = .ok (.checkcast 317, 3) := by decide +kernel
theorem dc_AR_copyOfI_13 : decode cd_AR_copyOfI 13 = .ok (.areturn, 1) := by decide +kernel
theorem dc_AR_copyOfI_14 : decode cd_AR_copyOfI 14 = .ok (.iload_n 1, 1) := by decide +kernel
theorem dc_AR_copyOfI_15 : decode cd_AR_copyOfI 15 = .ok (.newarray .int, 2) := by decide +kernel
theorem dc_AR_copyOfI_17 : decode cd_AR_copyOfI 17 = .ok (.astore_n 2, 1) := by decide +kernel
theorem dc_AR_copyOfI_18 : decode cd_AR_copyOfI 18 = .ok (.aload_n 0, 1) := by decide +kernel
theorem dc_AR_copyOfI_19 : decode cd_AR_copyOfI 19 = .ok (.iconst 0, 1) := by decide +kernel
theorem dc_AR_copyOfI_20 : decode cd_AR_copyOfI 20 = .ok (.aload_n 2, 1) := by decide +kernel
theorem dc_AR_copyOfI_21 : decode cd_AR_copyOfI 21 = .ok (.iconst 0, 1) := by decide +kernel
theorem dc_AR_copyOfI_22 : decode cd_AR_copyOfI 22 = .ok (.aload_n 0, 1) := by decide +kernel
theorem dc_AR_copyOfI_23 : decode cd_AR_copyOfI 23 = .ok (.arraylength, 1) := by decide +kernel
theorem dc_AR_copyOfI_24 : decode cd_AR_copyOfI 24 = .ok (.iload_n 1, 1) := by decide +kernel
theorem dc_AR_copyOfI_25 : decode cd_AR_copyOfI 25 = .ok (.invokestatic 304, 3) := by decide +kernel
theorem dc_AR_copyOfI_28 : decode cd_AR_copyOfI 28 = .ok (.invokestatic 150, 3) := by decide +kernel
theorem dc_AR_copyOfI_31 : decode cd_AR_copyOfI 31 = .ok (.aload_n 2, 1) := by decide +kernel
theorem dc_AR_copyOfI_32 : decode cd_AR_copyOfI 32 = .ok (.areturn, 1) := by decide +kernel
theorem dc_MO_settle_0 : decode cd_MO_settle 0 = .ok (.aload_n 0, 1) := by decide +kernel
theorem dc_MO_settle_1 : decode cd_MO_settle 1 = .ok (.invokevirtual 61, 3) := by decide +kernel
theorem dc_MO_settle_4 : decode cd_MO_settle 4 = .ok (.iconst 0, 1) := by decide +kernel
theorem dc_MO_settle_5 : decode cd_MO_settle 5 = .ok (.istore_n 1, 1) := by decide +kernel
theorem dc_MO_settle_6 : decode cd_MO_settle 6 = .ok (.iconst 0, 1) := by decide +kernel
theorem dc_MO_settle_7 : decode cd_MO_settle 7 = .ok (.istore_n 2, 1) := by decide +kernel
theorem dc_MO_settle_8 : decode cd_MO_settle 8 = .ok (.iload_n 2, 1) := by decide +kernel
theorem dc_MO_settle_9 : decode cd_MO_settle 9 = .ok (.aload_n 0, 1) := by decide +kernel
theorem dc_MO_settle_10 : decode cd_MO_settle 10 = .ok (.getfield 37, 3) := by decide +kernel
theorem dc_MO_settle_13 : decode cd_MO_settle 13 = .ok (.if_icmp .ge 35, 3) := by decide +kernel
theorem dc_MO_settle_16 : decode cd_MO_settle 16 = .ok (.aload_n 0, 1) := by decide +kernel
theorem dc_MO_settle_17 : decode cd_MO_settle 17 = .ok (.getfield 19, 3) := by decide +kernel
theorem dc_MO_settle_20 : decode cd_MO_settle 20 = .ok (.iload_n 2, 1) := by decide +kernel
theorem dc_MO_settle_21 : decode cd_MO_settle 21 = .ok (.iaload, 1) := by decide +kernel
theorem dc_MO_settle_22 : decode cd_MO_settle 22 = .ok (.iconst 1, 1) := by decide +kernel
theorem dc_MO_settle_23 : decode cd_MO_settle 23 = .ok (.if_icmp .ne 19, 3) := by decide +kernel
theorem dc_MO_settle_26 : decode cd_MO_settle 26 = .ok (.aload_n 0, 1) := by decide +kernel
theorem dc_MO_settle_27 : decode cd_MO_settle 27 = .ok (.getfield 22, 3) := by decide +kernel
theorem dc_MO_settle_30 : decode cd_MO_settle 30 = .ok (.iload_n 2, 1) := by decide +kernel
theorem dc_MO_settle_31 : decode cd_MO_settle 31 = .ok (.iaload, 1) := by decide +kernel
theorem dc_MO_settle_32 : decode cd_MO_settle 32 = .ok (.ifCond .ne 10, 3) := by decide +kernel
theorem dc_MO_settle_35 : decode cd_MO_settle 35 = .ok (.aload_n 0, 1) := by decide +kernel
theorem dc_MO_settle_36 : decode cd_MO_settle 36 = .ok (.iload_n 2, 1) := by decide +kernel
theorem dc_MO_settle_37 : decode cd_MO_settle 37 = .ok (.iload_n 1, 1) := by decide +kernel
theorem dc_MO_settle_38 : decode cd_MO_settle 38 = .ok (.invokevirtual 64, 3) := by decide +kernel
theorem dc_MO_settle_41 : decode cd_MO_settle 41 = .ok (.istore_n 1, 1) := by decide +kernel
theorem dc_MO_settle_42 : decode cd_MO_settle 42 = .ok (.iinc 2 1, 3) := by decide +kernel
theorem dc_MO_settle_45 : decode cd_MO_settle 45 = .ok (.goto (-37), 3) := by decide +kernel
theorem dc_MO_settle_48 : decode cd_MO_settle 48 = .ok (.iload_n 1, 1) := by decide +kernel
theorem dc_MO_settle_49 : decode cd_MO_settle 49 = .ok (.ifCond .le 108, 3) := by decide +kernel
theorem dc_MO_settle_52 : decode cd_MO_settle 52 = .ok (.iinc 1 (-1), 3) := by decide +kernel
theorem dc_MO_settle_55 : decode cd_MO_settle 55 = .ok (.aload_n 0, 1) := by decide +kernel
theorem dc_MO_settle_56 : decode cd_MO_settle 56 = .ok (.getfield 25, 3) := by decide +kernel
theorem dc_MO_settle_59 : decode cd_MO_settle 59 = .ok (.iload_n 1, 1) := by decide +kernel
theorem dc_MO_settle_60 : decode cd_MO_settle 60 = .ok (.iaload, 1) := by decide +kernel
theorem dc_MO_settle_61 : decode cd_MO_settle 61 = .ok (.istore_n 2, 1) := by decide +kernel
theorem dc_MO_settle_62 : decode cd_MO_settle 62 = .ok (.aload_n 0, 1) := by decide +kernel
theorem dc_MO_settle_63 : decode cd_MO_settle 63 = .ok (.iload_n 2, 1) := by decide +kernel
theorem dc_MO_settle_64 : decode cd_MO_settle 64 = .ok (.iconst (-1), 1) := by decide +kernel
theorem dc_MO_settle_65 : decode cd_MO_settle 65 = .ok (.invokevirtual 52, 3) := by decide +kernel
theorem dc_MO_settle_68 : decode cd_MO_settle 68 = .ok (.iconst 0, 1) := by decide +kernel
theorem dc_MO_settle_69 : decode cd_MO_settle 69 = .ok (.istore_n 3, 1) := by decide +kernel
theorem dc_MO_settle_70 : decode cd_MO_settle 70 = .ok (.iload_n 3, 1) := by decide +kernel
theorem dc_MO_settle_71 : decode cd_MO_settle 71 = .ok (.aload_n 0, 1) := by decide +kernel
theorem dc_MO_settle_72 : decode cd_MO_settle 72 = .ok (.getfield 15, 3) := by decide +kernel
theorem dc_MO_settle_75 : decode cd_MO_settle 75 = .ok (.iload_n 2, 1) := by decide +kernel
theorem dc_MO_settle_76 : decode cd_MO_settle 76 = .ok (.iaload, 1) := by decide +kernel
theorem dc_MO_settle_77 : decode cd_MO_settle 77 = .ok (.if_icmp .ge 77, 3) := by decide +kernel
theorem dc_MO_settle_80 : decode cd_MO_settle 80 = .ok (.aload_n 0, 1) := by decide +kernel
theorem dc_MO_settle_81 : decode cd_MO_settle 81 = .ok (.getfield 9, 3) := by decide +kernel
theorem dc_MO_settle_84 : decode cd_MO_settle 84 = .ok (.iload_n 2, 1) := by decide +kernel
theorem dc_MO_settle_85 : decode cd_MO_settle 85 = .ok (.aaload, 1) := by decide +kernel
theorem dc_MO_settle_86 : decode cd_MO_settle 86 = .ok (.iload_n 3, 1) := by decide +kernel
theorem dc_MO_settle_87 : decode cd_MO_settle 87 = .ok (.laload, 1) := by decide +kernel
theorem dc_MO_settle_88 : decode cd_MO_settle 88 = .ok (.ldc2_w 56, 3) := by decide +kernel
theorem dc_MO_settle_91 : decode cd_MO_settle 91 = .ok (.lcmp, 1) := by decide +kernel
theorem dc_MO_settle_92 : decode cd_MO_settle 92 = .ok (.ifCond .lt 19, 3) := by decide +kernel
theorem dc_MO_settle_95 : decode cd_MO_settle 95 = .ok (.aload_n 0, 1) := by decide +kernel
theorem dc_MO_settle_96 : decode cd_MO_settle 96 = .ok (.getfield 9, 3) := by decide +kernel
theorem dc_MO_settle_99 : decode cd_MO_settle 99 = .ok (.iload_n 2, 1) := by decide +kernel
theorem dc_MO_settle_100 : decode cd_MO_settle 100 = .ok (.aaload, 1) := by decide +kernel
theorem dc_MO_settle_101 : decode cd_MO_settle 101 = .ok (.iload_n 3, 1) := by decide +kernel
theorem dc_MO_settle_102 : decode cd_MO_settle 102 = .ok (.laload, 1) := by decide +kernel
theorem dc_MO_settle_103 : decode cd_MO_settle 103 = .ok (.ldc2_w 56, 3) := by decide +kernel
theorem dc_MO_settle_106 : decode cd_MO_settle 106 = .ok (.lsub, 1) := by decide +kernel
theorem dc_MO_settle_107 : decode cd_MO_settle 107 = .ok (.l2i, 1) := by decide +kernel
theorem dc_MO_settle_108 : decode cd_MO_settle 108 = .ok (.goto 4, 3) := by decide +kernel
theorem dc_MO_settle_111 : decode cd_MO_settle 111 = .ok (.iconst (-1), 1) := by decide +kernel
theorem dc_MO_settle_112 : decode cd_MO_settle 112 = .ok (.istore 4, 2) := by decide +kernel
theorem dc_MO_settle_114 : decode cd_MO_settle 114 = .ok (.iload 4, 2) := by decide +kernel
theorem dc_MO_settle_116 : decode cd_MO_settle 116 = .ok (.ifCond .lt 32, 3) := by decide +kernel
theorem dc_MO_settle_119 : decode cd_MO_settle 119 = .ok (.aload_n 0, 1) := by decide +kernel
theorem dc_MO_settle_120 : decode cd_MO_settle 120 = .ok (.getfield 19, 3) := by decide +kernel
theorem dc_MO_settle_123 : decode cd_MO_settle 123 = .ok (.iload 4, 2) := by decide +kernel
theorem dc_MO_settle_125 : decode cd_MO_settle 125 = .ok (.iaload, 1) := by decide +kernel
theorem dc_MO_settle_126 : decode cd_MO_settle 126 = .ok (.iconst 1, 1) := by decide +kernel
theorem dc_MO_settle_127 : decode cd_MO_settle 127 = .ok (.if_icmp .ne 21, 3) := by decide +kernel
theorem dc_MO_settle_130 : decode cd_MO_settle 130 = .ok (.aload_n 0, 1) := by decide +kernel
theorem dc_MO_settle_131 : decode cd_MO_settle 131 = .ok (.getfield 22, 3) := by decide +kernel
theorem dc_MO_settle_134 : decode cd_MO_settle 134 = .ok (.iload 4, 2) := by decide +kernel
theorem dc_MO_settle_136 : decode cd_MO_settle 136 = .ok (.iaload, 1) := by decide +kernel
theorem dc_MO_settle_137 : decode cd_MO_settle 137 = .ok (.ifCond .ne 11, 3) := by decide +kernel
theorem dc_MO_settle_140 : decode cd_MO_settle 140 = .ok (.aload_n 0, 1) := by decide +kernel
theorem dc_MO_settle_141 : decode cd_MO_settle 141 = .ok (.iload 4, 2) := by decide +kernel
theorem dc_MO_settle_143 : decode cd_MO_settle 143 = .ok (.iload_n 1, 1) := by decide +kernel
theorem dc_MO_settle_144 : decode cd_MO_settle 144 = .ok (.invokevirtual 64, 3) := by decide +kernel
theorem dc_MO_settle_147 : decode cd_MO_settle 147 = .ok (.istore_n 1, 1) := by decide +kernel
theorem dc_MO_settle_148 : decode cd_MO_settle 148 = .ok (.iinc 3 1, 3) := by decide +kernel
theorem dc_MO_settle_151 : decode cd_MO_settle 151 = .ok (.goto (-81), 3) := by decide +kernel
theorem dc_MO_settle_154 : decode cd_MO_settle 154 = .ok (.goto (-106), 3) := by decide +kernel
theorem dc_MO_settle_157 : decode cd_MO_settle 157 = .ok (.return_, 1) := by decide +kernel
theorem dc_MO_count0_0 : decode cd_MO_count0 0 = .ok (.aload_n 0, 1) := by decide +kernel
theorem dc_MO_count0_1 : decode cd_MO_count0 1 = .ok (.getfield 22, 3) := by decide +kernel
theorem dc_MO_count0_4 : decode cd_MO_count0 4 = .ok (.iconst 0, 1) := by decide +kernel
theorem dc_MO_count0_5 : decode cd_MO_count0 5 = .ok (.aload_n 0, 1) := by decide +kernel
theorem dc_MO_count0_6 : decode cd_MO_count0 6 = .ok (.getfield 37, 3) := by decide +kernel
theorem dc_MO_count0_9 : decode cd_MO_count0 9 = .ok (.iconst 0, 1) := by decide +kernel
theorem dc_MO_count0_10 : decode cd_MO_count0 10 = .ok (.invokestatic 49, 3) := by decide +kernel
theorem dc_MO_count0_13 : decode cd_MO_count0 13 = .ok (.aload_n 0, 1) := by decide +kernel
theorem dc_MO_count0_14 : decode cd_MO_count0 14 = .ok (.getfield 28, 3) := by decide +kernel
theorem dc_MO_count0_17 : decode cd_MO_count0 17 = .ok (.astore_n 1, 1) := by decide +kernel
theorem dc_MO_count0_18 : decode cd_MO_count0 18 = .ok (.aload_n 1, 1) := by decide +kernel
theorem dc_MO_count0_19 : decode cd_MO_count0 19 = .ok (.arraylength, 1) := by decide +kernel
theorem dc_MO_count0_20 : decode cd_MO_count0 20 = .ok (.istore_n 2, 1) := by decide +kernel
theorem dc_MO_count0_21 : decode cd_MO_count0 21 = .ok (.iconst 0, 1) := by decide +kernel
theorem dc_MO_count0_22 : decode cd_MO_count0 22 = .ok (.istore_n 3, 1) := by decide +kernel
theorem dc_MO_count0_23 : decode cd_MO_count0 23 = .ok (.iload_n 3, 1) := by decide +kernel
theorem dc_MO_count0_24 : decode cd_MO_count0 24 = .ok (.iload_n 2, 1) := by decide +kernel
theorem dc_MO_count0_25 : decode cd_MO_count0 25 = .ok (.if_icmp .ge 30, 3) := by decide +kernel
theorem dc_MO_count0_28 : decode cd_MO_count0 28 = .ok (.aload_n 1, 1) := by decide +kernel
theorem dc_MO_count0_29 : decode cd_MO_count0 29 = .ok (.iload_n 3, 1) := by decide +kernel
theorem dc_MO_count0_30 : decode cd_MO_count0 30 = .ok (.iaload, 1) := by decide +kernel
theorem dc_MO_count0_31 : decode cd_MO_count0 31 = .ok (.istore 4, 2) := by decide +kernel
theorem dc_MO_count0_33 : decode cd_MO_count0 33 = .ok (.iload 4, 2) := by decide +kernel
theorem dc_MO_count0_35 : decode cd_MO_count0 35 = .ok (.ifCond .lt 14, 3) := by decide +kernel
theorem dc_MO_count0_38 : decode cd_MO_count0 38 = .ok (.aload_n 0, 1) := by decide +kernel
theorem dc_MO_count0_39 : decode cd_MO_count0 39 = .ok (.getfield 22, 3) := by decide +kernel
theorem dc_MO_count0_42 : decode cd_MO_count0 42 = .ok (.iload 4, 2) := by decide +kernel
theorem dc_MO_count0_44 : decode cd_MO_count0 44 = .ok (.dup2, 1) := by decide +kernel
theorem dc_MO_count0_45 : decode cd_MO_count0 45 = .ok (.iaload, 1) := by decide +kernel
theorem dc_MO_count0_46 : decode cd_MO_count0 46 = .ok (.iconst 1, 1) := by decide +kernel
theorem dc_MO_count0_47 : decode cd_MO_count0 47 = .ok (.iadd, 1) := by decide +kernel
theorem dc_MO_count0_48 : decode cd_MO_count0 48 = .ok (.iastore, 1) := by decide +kernel
theorem dc_MO_count0_49 : decode cd_MO_count0 49 = .ok (.iinc 3 1, 3) := by decide +kernel
theorem dc_MO_count0_52 : decode cd_MO_count0 52 = .ok (.goto (-29), 3) := by decide +kernel
theorem dc_MO_count0_55 : decode cd_MO_count0 55 = .ok (.iconst 0, 1) := by decide +kernel
theorem dc_MO_count0_56 : decode cd_MO_count0 56 = .ok (.istore_n 1, 1) := by decide +kernel
theorem dc_MO_count0_57 : decode cd_MO_count0 57 = .ok (.iload_n 1, 1) := by decide +kernel
theorem dc_MO_count0_58 : decode cd_MO_count0 58 = .ok (.aload_n 0, 1) := by decide +kernel
theorem dc_MO_count0_59 : decode cd_MO_count0 59 = .ok (.getfield 37, 3) := by decide +kernel
theorem dc_MO_count0_62 : decode cd_MO_count0 62 = .ok (.if_icmp .ge 25, 3) := by decide +kernel
theorem dc_MO_count0_65 : decode cd_MO_count0 65 = .ok (.aload_n 0, 1) := by decide +kernel
theorem dc_MO_count0_66 : decode cd_MO_count0 66 = .ok (.getfield 19, 3) := by decide +kernel
theorem dc_MO_count0_69 : decode cd_MO_count0 69 = .ok (.iload_n 1, 1) := by decide +kernel
theorem dc_MO_count0_70 : decode cd_MO_count0 70 = .ok (.iaload, 1) := by decide +kernel
theorem dc_MO_count0_71 : decode cd_MO_count0 71 = .ok (.iconst 1, 1) := by decide +kernel
theorem dc_MO_count0_72 : decode cd_MO_count0 72 = .ok (.if_icmp .ne 9, 3) := by decide +kernel
theorem dc_MO_count0_75 : decode cd_MO_count0 75 = .ok (.aload_n 0, 1) := by decide +kernel
theorem dc_MO_count0_76 : decode cd_MO_count0 76 = .ok (.iload_n 1, 1) := by decide +kernel
theorem dc_MO_count0_77 : decode cd_MO_count0 77 = .ok (.iconst 1, 1) := by decide +kernel
theorem dc_MO_count0_78 : decode cd_MO_count0 78 = .ok (.invokevirtual 52, 3) := by decide +kernel
theorem dc_MO_count0_81 : decode cd_MO_count0 81 = .ok (.iinc 1 1, 3) := by decide +kernel
theorem dc_MO_count0_84 : decode cd_MO_count0 84 = .ok (.goto (-27), 3) := by decide +kernel
theorem dc_MO_count0_87 : decode cd_MO_count0 87 = .ok (.return_, 1) := by decide +kernel
theorem dc_AR_fill4_0 : decode cd_AR_fill4 0 = .ok (.aload_n 0, 1) := by decide +kernel
theorem dc_AR_fill4_1 : decode cd_AR_fill4 1 = .ok (.arraylength, 1) := by decide +kernel
theorem dc_AR_fill4_2 : decode cd_AR_fill4 2 = .ok (.iload_n 1, 1) := by decide +kernel
theorem dc_AR_fill4_3 : decode cd_AR_fill4 3 = .ok (.iload_n 2, 1) := by decide +kernel
theorem dc_AR_fill4_4 : decode cd_AR_fill4 4 = .ok (.invokestatic 13, 3) := by decide +kernel
theorem dc_AR_fill4_7 : decode cd_AR_fill4 7 = .ok (.iload_n 1, 1) := by decide +kernel
theorem dc_AR_fill4_8 : decode cd_AR_fill4 8 = .ok (.istore 4, 2) := by decide +kernel
theorem dc_AR_fill4_10 : decode cd_AR_fill4 10 = .ok (.iload 4, 2) := by decide +kernel
theorem dc_AR_fill4_12 : decode cd_AR_fill4 12 = .ok (.iload_n 2, 1) := by decide +kernel
theorem dc_AR_fill4_13 : decode cd_AR_fill4 13 = .ok (.if_icmp .ge 14, 3) := by decide +kernel
theorem dc_AR_fill4_16 : decode cd_AR_fill4 16 = .ok (.aload_n 0, 1) := by decide +kernel
theorem dc_AR_fill4_17 : decode cd_AR_fill4 17 = .ok (.iload 4, 2) := by decide +kernel
theorem dc_AR_fill4_19 : decode cd_AR_fill4 19 = .ok (.iload_n 3, 1) := by decide +kernel
theorem dc_AR_fill4_20 : decode cd_AR_fill4 20 = .ok (.iastore, 1) := by decide +kernel
theorem dc_AR_fill4_21 : decode cd_AR_fill4 21 = .ok (.iinc 4 1, 3) := by decide +kernel
theorem dc_AR_fill4_24 : decode cd_AR_fill4 24 = .ok (.goto (-14), 3) := by decide +kernel
theorem dc_AR_fill4_27 : decode cd_AR_fill4 27 = .ok (.return_, 1) := by decide +kernel
theorem dc_AR_rangeCheck_0 : decode cd_AR_rangeCheck 0 = .ok (.iload_n 1, 1) := by decide +kernel
theorem dc_AR_rangeCheck_1 : decode cd_AR_rangeCheck 1 = .ok (.iload_n 2, 1) := by decide +kernel
theorem dc_AR_rangeCheck_2 : decode cd_AR_rangeCheck 2 = .ok (.if_icmp .le 44, 3) := by decide +kernel
theorem dc_AR_rangeCheck_5 : decode cd_AR_rangeCheck 5 = .ok (.new 43, 3) := by decide +kernel
theorem dc_AR_rangeCheck_8 : decode cd_AR_rangeCheck 8 = .ok (.dup, 1) := by decide +kernel
theorem dc_AR_rangeCheck_9 : decode cd_AR_rangeCheck 9 = .ok (.new 45, 3) := by decide +kernel
theorem dc_AR_rangeCheck_12 : decode cd_AR_rangeCheck 12 = .ok (.dup, 1) := by decide +kernel
theorem dc_AR_rangeCheck_13 : decode cd_AR_rangeCheck 13 = .ok (.invokespecial 47, 3) := by decide +kernel
theorem dc_AR_rangeCheck_16 : decode cd_AR_rangeCheck 16 = .ok (.ldc 48, 2) := by decide +kernel
theorem dc_AR_rangeCheck_18 : decode cd_AR_rangeCheck 18 = .ok (.invokevirtual 50, 3) := by decide +kernel
theorem dc_AR_rangeCheck_21 : decode cd_AR_rangeCheck 21 = .ok (.iload_n 1, 1) := by decide +kernel
theorem dc_AR_rangeCheck_22 : decode cd_AR_rangeCheck 22 = .ok (.invokevirtual 54, 3) := by decide +kernel
theorem dc_AR_rangeCheck_25 : decode cd_AR_rangeCheck 25 = .ok (.ldc 57, 2) := by decide +kernel
theorem dc_AR_rangeCheck_27 : decode cd_AR_rangeCheck 27 = .ok (.invokevirtual 50, 3) := by decide +kernel
theorem dc_AR_rangeCheck_30 : decode cd_AR_rangeCheck 30 = .ok (.iload_n 2, 1) := by decide +kernel
theorem dc_AR_rangeCheck_31 : decode cd_AR_rangeCheck 31 = .ok (.invokevirtual 54, 3) := by decide +kernel
theorem dc_AR_rangeCheck_34 : decode cd_AR_rangeCheck 34 = .ok (.ldc 59, 2) := by decide +kernel
theorem dc_AR_rangeCheck_36 : decode cd_AR_rangeCheck 36 = .ok (.invokevirtual 50, 3) := by decide +kernel
theorem dc_AR_rangeCheck_39 : decode cd_AR_rangeCheck 39 = .ok (.invokevirtual 61, 3) := by decide +kernel
theorem dc_AR_rangeCheck_42 : decode cd_AR_rangeCheck 42 = .ok (.invokespecial 65, 3) := by decide +kernel
theorem dc_AR_rangeCheck_45 : decode cd_AR_rangeCheck 45 = .ok (.athrow, 1) := by decide +kernel
theorem dc_AR_rangeCheck_46 : decode cd_AR_rangeCheck 46 = .ok (.iload_n 1, 1) := by decide +kernel
theorem dc_AR_rangeCheck_47 : decode cd_AR_rangeCheck 47 = .ok (.ifCond .ge 12, 3) := by decide +kernel
theorem dc_AR_rangeCheck_50 : decode cd_AR_rangeCheck 50 = .ok (.new 68, 3) := by decide +kernel
theorem dc_AR_rangeCheck_53 : decode cd_AR_rangeCheck 53 = .ok (.dup, 1) := by decide +kernel
theorem dc_AR_rangeCheck_54 : decode cd_AR_rangeCheck 54 = .ok (.iload_n 1, 1) := by decide +kernel
theorem dc_AR_rangeCheck_55 : decode cd_AR_rangeCheck 55 = .ok (.invokespecial 70, 3) := by decide +kernel
theorem dc_AR_rangeCheck_58 : decode cd_AR_rangeCheck 58 = .ok (.athrow, 1) := by decide +kernel
theorem dc_AR_rangeCheck_59 : decode cd_AR_rangeCheck 59 = .ok (.iload_n 2, 1) := by decide +kernel
theorem dc_AR_rangeCheck_60 : decode cd_AR_rangeCheck 60 = .ok (.iload_n 0, 1) := by decide +kernel
theorem dc_AR_rangeCheck_61 : decode cd_AR_rangeCheck 61 = .ok (.if_icmp .le 12, 3) := by decide +kernel
theorem dc_AR_rangeCheck_64 : decode cd_AR_rangeCheck 64 = .ok (.new 68, 3) := by decide +kernel
theorem dc_AR_rangeCheck_67 : decode cd_AR_rangeCheck 67 = .ok (.dup, 1) := by decide +kernel
theorem dc_AR_rangeCheck_68 : decode cd_AR_rangeCheck 68 = .ok (.iload_n 2, 1) := by decide +kernel
theorem dc_AR_rangeCheck_69 : decode cd_AR_rangeCheck 69 = .ok (.invokespecial 70, 3) := by decide +kernel
theorem dc_AR_rangeCheck_72 : decode cd_AR_rangeCheck 72 = .ok (.athrow, 1) := by decide +kernel
theorem dc_AR_rangeCheck_73 : decode cd_AR_rangeCheck 73 = .ok (.return_, 1) := by decide +kernel
theorem dc_MO_hold_0 : decode cd_MO_hold 0 = .ok (.iconst 0, 1) := by decide +kernel
theorem dc_MO_hold_1 : decode cd_MO_hold 1 = .ok (.istore_n 3, 1) := by decide +kernel
theorem dc_MO_hold_2 : decode cd_MO_hold 2 = .ok (.iload_n 3, 1) := by decide +kernel
theorem dc_MO_hold_3 : decode cd_MO_hold 3 = .ok (.aload_n 0, 1) := by decide +kernel
theorem dc_MO_hold_4 : decode cd_MO_hold 4 = .ok (.getfield 15, 3) := by decide +kernel
theorem dc_MO_hold_7 : decode cd_MO_hold 7 = .ok (.iload_n 1, 1) := by decide +kernel
theorem dc_MO_hold_8 : decode cd_MO_hold 8 = .ok (.iaload, 1) := by decide +kernel
theorem dc_MO_hold_9 : decode cd_MO_hold 9 = .ok (.if_icmp .ge 46, 3) := by decide +kernel
theorem dc_MO_hold_12 : decode cd_MO_hold 12 = .ok (.aload_n 0, 1) := by decide +kernel
theorem dc_MO_hold_13 : decode cd_MO_hold 13 = .ok (.getfield 9, 3) := by decide +kernel
theorem dc_MO_hold_16 : decode cd_MO_hold 16 = .ok (.iload_n 1, 1) := by decide +kernel
theorem dc_MO_hold_17 : decode cd_MO_hold 17 = .ok (.aaload, 1) := by decide +kernel
theorem dc_MO_hold_18 : decode cd_MO_hold 18 = .ok (.iload_n 3, 1) := by decide +kernel
theorem dc_MO_hold_19 : decode cd_MO_hold 19 = .ok (.laload, 1) := by decide +kernel
theorem dc_MO_hold_20 : decode cd_MO_hold 20 = .ok (.ldc2_w 56, 3) := by decide +kernel
theorem dc_MO_hold_23 : decode cd_MO_hold 23 = .ok (.lcmp, 1) := by decide +kernel
theorem dc_MO_hold_24 : decode cd_MO_hold 24 = .ok (.ifCond .lt 25, 3) := by decide +kernel
theorem dc_MO_hold_27 : decode cd_MO_hold 27 = .ok (.aload_n 0, 1) := by decide +kernel
theorem dc_MO_hold_28 : decode cd_MO_hold 28 = .ok (.getfield 22, 3) := by decide +kernel
theorem dc_MO_hold_31 : decode cd_MO_hold 31 = .ok (.aload_n 0, 1) := by decide +kernel
theorem dc_MO_hold_32 : decode cd_MO_hold 32 = .ok (.getfield 9, 3) := by decide +kernel
theorem dc_MO_hold_35 : decode cd_MO_hold 35 = .ok (.iload_n 1, 1) := by decide +kernel
theorem dc_MO_hold_36 : decode cd_MO_hold 36 = .ok (.aaload, 1) := by decide +kernel
theorem dc_MO_hold_37 : decode cd_MO_hold 37 = .ok (.iload_n 3, 1) := by decide +kernel
theorem dc_MO_hold_38 : decode cd_MO_hold 38 = .ok (.laload, 1) := by decide +kernel
theorem dc_MO_hold_39 : decode cd_MO_hold 39 = .ok (.ldc2_w 56, 3) := by decide +kernel
theorem dc_MO_hold_42 : decode cd_MO_hold 42 = .ok (.lsub, 1) := by decide +kernel
theorem dc_MO_hold_43 : decode cd_MO_hold 43 = .ok (.l2i, 1) := by decide +kernel
theorem dc_MO_hold_44 : decode cd_MO_hold 44 = .ok (.dup2, 1) := by decide +kernel
theorem dc_MO_hold_45 : decode cd_MO_hold 45 = .ok (.iaload, 1) := by decide +kernel
theorem dc_MO_hold_46 : decode cd_MO_hold 46 = .ok (.iload_n 2, 1) := by decide +kernel
