theorem dc_MO_item_25 : decode cd_MO_item 25 = .ok (.getfield 9, 3) := by decide +kernel
theorem dc_MO_item_28 : decode cd_MO_item 28 = .ok (.iload_n 1, 1) := by decide +kernel
theorem dc_MO_item_29 : decode cd_MO_item 29 = .ok (.aaload, 1) := by decide +kernel
theorem dc_MO_item_30 : decode cd_MO_item 30 = .ok (.iload_n 2, 1) := by decide +kernel
theorem dc_MO_item_31 : decode cd_MO_item 31 = .ok (.laload, 1) := by decide +kernel
theorem dc_MO_item_32 : decode cd_MO_item 32 = .ok (.goto 6, 3) := by decide +kernel
theorem dc_MO_item_35 : decode cd_MO_item 35 = .ok (.ldc2_w 85, 3) := by decide +kernel
theorem dc_MO_item_38 : decode cd_MO_item 38 = .ok (.lreturn, 1) := by decide +kernel
theorem dc_MO_held_0 : decode cd_MO_held 0 = .ok (.iload_n 1, 1) := by decide +kernel
theorem dc_MO_held_1 : decode cd_MO_held 1 = .ok (.iconst 0, 1) := by decide +kernel
theorem dc_MO_held_2 : decode cd_MO_held 2 = .ok (.bipush 15, 2) := by decide +kernel
theorem dc_MO_held_4 : decode cd_MO_held 4 = .ok (.invokestatic 41, 3) := by decide +kernel
theorem dc_MO_held_7 : decode cd_MO_held 7 = .ok (.ifCond .ne 5, 3) := by decide +kernel
theorem dc_MO_held_10 : decode cd_MO_held 10 = .ok (.iconst (-1), 1) := by decide +kernel
theorem dc_MO_held_11 : decode cd_MO_held 11 = .ok (.ireturn, 1) := by decide +kernel
theorem dc_MO_held_12 : decode cd_MO_held 12 = .ok (.aload_n 0, 1) := by decide +kernel
theorem dc_MO_held_13 : decode cd_MO_held 13 = .ok (.getfield 28, 3) := by decide +kernel
theorem dc_MO_held_16 : decode cd_MO_held 16 = .ok (.iload_n 1, 1) := by decide +kernel
theorem dc_MO_held_17 : decode cd_MO_held 17 = .ok (.iaload, 1) := by decide +kernel
theorem dc_MO_held_18 : decode cd_MO_held 18 = .ok (.ifCond .ge 8, 3) := by decide +kernel
theorem dc_MO_held_21 : decode cd_MO_held 21 = .ok (.bipush (-2), 2) := by decide +kernel
theorem dc_MO_held_23 : decode cd_MO_held 23 = .ok (.goto 9, 3) := by decide +kernel
theorem dc_MO_held_26 : decode cd_MO_held 26 = .ok (.aload_n 0, 1) := by decide +kernel
theorem dc_MO_held_27 : decode cd_MO_held 27 = .ok (.getfield 28, 3) := by decide +kernel
theorem dc_MO_held_30 : decode cd_MO_held 30 = .ok (.iload_n 1, 1) := by decide +kernel
theorem dc_MO_held_31 : decode cd_MO_held 31 = .ok (.iaload, 1) := by decide +kernel
theorem dc_MO_held_32 : decode cd_MO_held 32 = .ok (.ireturn, 1) := by decide +kernel
theorem dc_MO_holders_0 : decode cd_MO_holders 0 = .ok (.aload_n 0, 1) := by decide +kernel
theorem dc_MO_holders_1 : decode cd_MO_holders 1 = .ok (.iload_n 1, 1) := by decide +kernel
theorem dc_MO_holders_2 : decode cd_MO_holders 2 = .ok (.invokevirtual 74, 3) := by decide +kernel
theorem dc_MO_holders_5 : decode cd_MO_holders 5 = .ok (.ifCond .ne 6, 3) := by decide +kernel
theorem dc_MO_holders_8 : decode cd_MO_holders 8 = .ok (.bipush (-2), 2) := by decide +kernel
theorem dc_MO_holders_10 : decode cd_MO_holders 10 = .ok (.ireturn, 1) := by decide +kernel
theorem dc_MO_holders_11 : decode cd_MO_holders 11 = .ok (.aload_n 0, 1) := by decide +kernel
theorem dc_MO_holders_12 : decode cd_MO_holders 12 = .ok (.invokevirtual 61, 3) := by decide +kernel
theorem dc_MO_holders_15 : decode cd_MO_holders 15 = .ok (.aload_n 0, 1) := by decide +kernel
theorem dc_MO_holders_16 : decode cd_MO_holders 16 = .ok (.getfield 22, 3) := by decide +kernel
theorem dc_MO_holders_19 : decode cd_MO_holders 19 = .ok (.iload_n 1, 1) := by decide +kernel
theorem dc_MO_holders_20 : decode cd_MO_holders 20 = .ok (.iaload, 1) := by decide +kernel
theorem dc_MO_holders_21 : decode cd_MO_holders 21 = .ok (.ireturn, 1) := by decide +kernel
theorem dc_MO_items_0 : decode cd_MO_items 0 = .ok (.aload_n 0, 1) := by decide +kernel
theorem dc_MO_items_1 : decode cd_MO_items 1 = .ok (.iload_n 1, 1) := by decide +kernel
theorem dc_MO_items_2 : decode cd_MO_items 2 = .ok (.invokevirtual 74, 3) := by decide +kernel
theorem dc_MO_items_5 : decode cd_MO_items 5 = .ok (.ifCond .eq 12, 3) := by decide +kernel
theorem dc_MO_items_8 : decode cd_MO_items 8 = .ok (.aload_n 0, 1) := by decide +kernel
theorem dc_MO_items_9 : decode cd_MO_items 9 = .ok (.getfield 15, 3) := by decide +kernel
theorem dc_MO_items_12 : decode cd_MO_items 12 = .ok (.iload_n 1, 1) := by decide +kernel
theorem dc_MO_items_13 : decode cd_MO_items 13 = .ok (.iaload, 1) := by decide +kernel
theorem dc_MO_items_14 : decode cd_MO_items 14 = .ok (.goto 5, 3) := by decide +kernel
theorem dc_MO_items_17 : decode cd_MO_items 17 = .ok (.bipush (-2), 2) := by decide +kernel
theorem dc_MO_items_19 : decode cd_MO_items 19 = .ok (.ireturn, 1) := by decide +kernel
theorem dc_MO_collect_0 : decode cd_MO_collect 0 = .ok (.aload_n 0, 1) := by decide +kernel
theorem dc_MO_collect_1 : decode cd_MO_collect 1 = .ok (.getfield 22, 3) := by decide +kernel
theorem dc_MO_collect_4 : decode cd_MO_collect 4 = .ok (.iconst 0, 1) := by decide +kernel
theorem dc_MO_collect_5 : decode cd_MO_collect 5 = .ok (.aload_n 0, 1) := by decide +kernel
theorem dc_MO_collect_6 : decode cd_MO_collect 6 = .ok (.getfield 37, 3) := by decide +kernel
theorem dc_MO_collect_9 : decode cd_MO_collect 9 = .ok (.iconst 0, 1) := by decide +kernel
theorem dc_MO_collect_10 : decode cd_MO_collect 10 = .ok (.invokestatic 49, 3) := by decide +kernel
theorem dc_MO_collect_13 : decode cd_MO_collect 13 = .ok (.iconst 0, 1) := by decide +kernel
theorem dc_MO_collect_14 : decode cd_MO_collect 14 = .ok (.istore_n 1, 1) := by decide +kernel
theorem dc_MO_collect_15 : decode cd_MO_collect 15 = .ok (.iconst 0, 1) := by decide +kernel
theorem dc_MO_collect_16 : decode cd_MO_collect 16 = .ok (.istore_n 2, 1) := by decide +kernel
theorem dc_MO_collect_17 : decode cd_MO_collect 17 = .ok (.aload_n 0, 1) := by decide +kernel
theorem dc_MO_collect_18 : decode cd_MO_collect 18 = .ok (.getfield 28, 3) := by decide +kernel
theorem dc_MO_collect_21 : decode cd_MO_collect 21 = .ok (.astore_n 3, 1) := by decide +kernel
theorem dc_MO_collect_22 : decode cd_MO_collect 22 = .ok (.aload_n 3, 1) := by decide +kernel
theorem dc_MO_collect_23 : decode cd_MO_collect 23 = .ok (.arraylength, 1) := by decide +kernel
theorem dc_MO_collect_24 : decode cd_MO_collect 24 = .ok (.istore 4, 2) := by decide +kernel
theorem dc_MO_collect_26 : decode cd_MO_collect 26 = .ok (.iconst 0, 1) := by decide +kernel
theorem dc_MO_collect_27 : decode cd_MO_collect 27 = .ok (.istore 5, 2) := by decide +kernel
theorem dc_MO_collect_29 : decode cd_MO_collect 29 = .ok (.iload 5, 2) := by decide +kernel
theorem dc_MO_collect_31 : decode cd_MO_collect 31 = .ok (.iload 4, 2) := by decide +kernel
theorem dc_MO_collect_33 : decode cd_MO_collect 33 = .ok (.if_icmp .ge 28, 3) := by decide +kernel
theorem dc_MO_collect_36 : decode cd_MO_collect 36 = .ok (.aload_n 3, 1) := by decide +kernel
theorem dc_MO_collect_37 : decode cd_MO_collect 37 = .ok (.iload 5, 2) := by decide +kernel
theorem dc_MO_collect_39 : decode cd_MO_collect 39 = .ok (.iaload, 1) := by decide +kernel
theorem dc_MO_collect_40 : decode cd_MO_collect 40 = .ok (.istore 6, 2) := by decide +kernel
theorem dc_MO_collect_42 : decode cd_MO_collect 42 = .ok (.iload 6, 2) := by decide +kernel
theorem dc_MO_collect_44 : decode cd_MO_collect 44 = .ok (.ifCond .lt 11, 3) := by decide +kernel
theorem dc_MO_collect_47 : decode cd_MO_collect 47 = .ok (.aload_n 0, 1) := by decide +kernel
theorem dc_MO_collect_48 : decode cd_MO_collect 48 = .ok (.iload 6, 2) := by decide +kernel
theorem dc_MO_collect_50 : decode cd_MO_collect 50 = .ok (.iload_n 1, 1) := by decide +kernel
theorem dc_MO_collect_51 : decode cd_MO_collect 51 = .ok (.invokevirtual 87, 3) := by decide +kernel
theorem dc_MO_collect_54 : decode cd_MO_collect 54 = .ok (.istore_n 1, 1) := by decide +kernel
theorem dc_MO_collect_55 : decode cd_MO_collect 55 = .ok (.iinc 5 1, 3) := by decide +kernel
theorem dc_MO_collect_58 : decode cd_MO_collect 58 = .ok (.goto (-29), 3) := by decide +kernel
theorem dc_MO_collect_61 : decode cd_MO_collect 61 = .ok (.iload_n 1, 1) := by decide +kernel
theorem dc_MO_collect_62 : decode cd_MO_collect 62 = .ok (.ifCond .le 72, 3) := by decide +kernel
theorem dc_MO_collect_65 : decode cd_MO_collect 65 = .ok (.iinc 1 (-1), 3) := by decide +kernel
theorem dc_MO_collect_68 : decode cd_MO_collect 68 = .ok (.aload_n 0, 1) := by decide +kernel
theorem dc_MO_collect_69 : decode cd_MO_collect 69 = .ok (.getfield 25, 3) := by decide +kernel
theorem dc_MO_collect_72 : decode cd_MO_collect 72 = .ok (.iload_n 1, 1) := by decide +kernel
theorem dc_MO_collect_73 : decode cd_MO_collect 73 = .ok (.iaload, 1) := by decide +kernel
theorem dc_MO_collect_74 : decode cd_MO_collect 74 = .ok (.istore_n 3, 1) := by decide +kernel
theorem dc_MO_collect_75 : decode cd_MO_collect 75 = .ok (.iconst 0, 1) := by decide +kernel
theorem dc_MO_collect_76 : decode cd_MO_collect 76 = .ok (.istore 4, 2) := by decide +kernel
theorem dc_MO_collect_78 : decode cd_MO_collect 78 = .ok (.iload 4, 2) := by decide +kernel
theorem dc_MO_collect_80 : decode cd_MO_collect 80 = .ok (.aload_n 0, 1) := by decide +kernel
theorem dc_MO_collect_81 : decode cd_MO_collect 81 = .ok (.getfield 15, 3) := by decide +kernel
theorem dc_MO_collect_84 : decode cd_MO_collect 84 = .ok (.iload_n 3, 1) := by decide +kernel
theorem dc_MO_collect_85 : decode cd_MO_collect 85 = .ok (.iaload, 1) := by decide +kernel
theorem dc_MO_collect_86 : decode cd_MO_collect 86 = .ok (.if_icmp .ge 45, 3) := by decide +kernel
theorem dc_MO_collect_89 : decode cd_MO_collect 89 = .ok (.aload_n 0, 1) := by decide +kernel
theorem dc_MO_collect_90 : decode cd_MO_collect 90 = .ok (.getfield 9, 3) := by decide +kernel
theorem dc_MO_collect_93 : decode cd_MO_collect 93 = .ok (.iload_n 3, 1) := by decide +kernel
theorem dc_MO_collect_94 : decode cd_MO_collect 94 = .ok (.aaload, 1) := by decide +kernel
theorem dc_MO_collect_95 : decode cd_MO_collect 95 = .ok (.iload 4, 2) := by decide +kernel
theorem dc_MO_collect_97 : decode cd_MO_collect 97 = .ok (.laload, 1) := by decide +kernel
theorem dc_MO_collect_98 : decode cd_MO_collect 98 = .ok (.ldc2_w 56, 3) := by decide +kernel
theorem dc_MO_collect_101 : decode cd_MO_collect 101 = .ok (.lcmp, 1) := by decide +kernel
theorem dc_MO_collect_102 : decode cd_MO_collect 102 = .ok (.ifCond .lt 23, 3) := by decide +kernel
theorem dc_MO_collect_105 : decode cd_MO_collect 105 = .ok (.aload_n 0, 1) := by decide +kernel
theorem dc_MO_collect_106 : decode cd_MO_collect 106 = .ok (.aload_n 0, 1) := by decide +kernel
theorem dc_MO_collect_107 : decode cd_MO_collect 107 = .ok (.getfield 9, 3) := by decide +kernel
theorem dc_MO_collect_110 : decode cd_MO_collect 110 = .ok (.iload_n 3, 1) := by decide +kernel
theorem dc_MO_collect_111 : decode cd_MO_collect 111 = .ok (.aaload, 1) := by decide +kernel
theorem dc_MO_collect_112 : decode cd_MO_collect 112 = .ok (.iload 4, 2) := by decide +kernel
theorem dc_MO_collect_114 : decode cd_MO_collect 114 = .ok (.laload, 1) := by decide +kernel
theorem dc_MO_collect_115 : decode cd_MO_collect 115 = .ok (.ldc2_w 56, 3) := by decide +kernel
theorem dc_MO_collect_118 : decode cd_MO_collect 118 = .ok (.lsub, 1) := by decide +kernel
theorem dc_MO_collect_119 : decode cd_MO_collect 119 = .ok (.l2i, 1) := by decide +kernel
theorem dc_MO_collect_120 : decode cd_MO_collect 120 = .ok (.iload_n 1, 1) := by decide +kernel
theorem dc_MO_collect_121 : decode cd_MO_collect 121 = .ok (.invokevirtual 87, 3) := by decide +kernel
theorem dc_MO_collect_124 : decode cd_MO_collect 124 = .ok (.istore_n 1, 1) := by decide +kernel
theorem dc_MO_collect_125 : decode cd_MO_collect 125 = .ok (.iinc 4 1, 3) := by decide +kernel
theorem dc_MO_collect_128 : decode cd_MO_collect 128 = .ok (.goto (-50), 3) := by decide +kernel
theorem dc_MO_collect_131 : decode cd_MO_collect 131 = .ok (.goto (-70), 3) := by decide +kernel
theorem dc_MO_collect_134 : decode cd_MO_collect 134 = .ok (.iconst 0, 1) := by decide +kernel
theorem dc_MO_collect_135 : decode cd_MO_collect 135 = .ok (.istore_n 3, 1) := by decide +kernel
theorem dc_MO_collect_136 : decode cd_MO_collect 136 = .ok (.iload_n 3, 1) := by decide +kernel
theorem dc_MO_collect_137 : decode cd_MO_collect 137 = .ok (.aload_n 0, 1) := by decide +kernel
theorem dc_MO_collect_138 : decode cd_MO_collect 138 = .ok (.getfield 37, 3) := by decide +kernel
theorem dc_MO_collect_141 : decode cd_MO_collect 141 = .ok (.if_icmp .ge 50, 3) := by decide +kernel
theorem dc_MO_collect_144 : decode cd_MO_collect 144 = .ok (.aload_n 0, 1) := by decide +kernel
theorem dc_MO_collect_145 : decode cd_MO_collect 145 = .ok (.getfield 19, 3) := by decide +kernel
theorem dc_MO_collect_148 : decode cd_MO_collect 148 = .ok (.iload_n 3, 1) := by decide +kernel
theorem dc_MO_collect_149 : decode cd_MO_collect 149 = .ok (.iaload, 1) := by decide +kernel
theorem dc_MO_collect_150 : decode cd_MO_collect 150 = .ok (.ifCond .eq 35, 3) := by decide +kernel
theorem dc_MO_collect_153 : decode cd_MO_collect 153 = .ok (.aload_n 0, 1) := by decide +kernel
theorem dc_MO_collect_154 : decode cd_MO_collect 154 = .ok (.getfield 22, 3) := by decide +kernel
theorem dc_MO_collect_157 : decode cd_MO_collect 157 = .ok (.iload_n 3, 1) := by decide +kernel
theorem dc_MO_collect_158 : decode cd_MO_collect 158 = .ok (.iaload, 1) := by decide +kernel
theorem dc_MO_collect_159 : decode cd_MO_collect 159 = .ok (.ifCond .le 6, 3) := by decide +kernel
theorem dc_MO_collect_162 : decode cd_MO_collect 162 = .ok (.goto 23, 3) := by decide +kernel
theorem dc_MO_collect_165 : decode cd_MO_collect 165 = .ok (.aload_n 0, 1) := by decide +kernel
theorem dc_MO_collect_166 : decode cd_MO_collect 166 = .ok (.getfield 19, 3) := by decide +kernel
theorem dc_MO_collect_169 : decode cd_MO_collect 169 = .ok (.iload_n 3, 1) := by decide +kernel
theorem dc_MO_collect_170 : decode cd_MO_collect 170 = .ok (.iconst 0, 1) := by decide +kernel
theorem dc_MO_collect_171 : decode cd_MO_collect 171 = .ok (.iastore, 1) := by decide +kernel
theorem dc_MO_collect_172 : decode cd_MO_collect 172 = .ok (.aload_n 0, 1) := by decide +kernel
theorem dc_MO_collect_173 : decode cd_MO_collect 173 = .ok (.dup, 1) := by decide +kernel
theorem dc_MO_collect_174 : decode cd_MO_collect 174 = .ok (.getfield 58, 3) := by decide +kernel
theorem dc_MO_collect_177 : decode cd_MO_collect 177 = .ok (.iconst 1, 1) := by decide +kernel
theorem dc_MO_collect_178 : decode cd_MO_collect 178 = .ok (.isub, 1) := by decide +kernel
theorem dc_MO_collect_179 : decode cd_MO_collect 179 = .ok (.putfield 58, 3) := by decide +kernel
theorem dc_MO_collect_182 : decode cd_MO_collect 182 = .ok (.iinc 2 1, 3) := by decide +kernel
theorem dc_MO_collect_185 : decode cd_MO_collect 185 = .ok (.iinc 3 1, 3) := by decide +kernel
theorem dc_MO_collect_188 : decode cd_MO_collect 188 = .ok (.goto (-52), 3) := by decide +kernel
theorem dc_MO_collect_191 : decode cd_MO_collect 191 = .ok (.iload_n 2, 1) := by decide +kernel
theorem dc_MO_collect_192 : decode cd_MO_collect 192 = .ok (.ireturn, 1) := by decide +kernel
theorem dc_MO_reach_0 : decode cd_MO_reach 0 = .ok (.aload_n 0, 1) := by decide +kernel
theorem dc_MO_reach_1 : decode cd_MO_reach 1 = .ok (.getfield 22, 3) := by decide +kernel
theorem dc_MO_reach_4 : decode cd_MO_reach 4 = .ok (.iload_n 1, 1) := by decide +kernel
theorem dc_MO_reach_5 : decode cd_MO_reach 5 = .ok (.iaload, 1) := by decide +kernel
theorem dc_MO_reach_6 : decode cd_MO_reach 6 = .ok (.ifCond .le 5, 3) := by decide +kernel
theorem dc_MO_reach_9 : decode cd_MO_reach 9 = .ok (.iload_n 2, 1) := by decide +kernel
theorem dc_MO_reach_10 : decode cd_MO_reach 10 = .ok (.ireturn, 1) := by decide +kernel
theorem dc_MO_reach_11 : decode cd_MO_reach 11 = .ok (.aload_n 0, 1) := by decide +kernel
theorem dc_MO_reach_12 : decode cd_MO_reach 12 = .ok (.getfield 22, 3) := by decide +kernel
theorem dc_MO_reach_15 : decode cd_MO_reach 15 = .ok (.iload_n 1, 1) := by decide +kernel
theorem dc_MO_reach_16 : decode cd_MO_reach 16 = .ok (.iconst 1, 1) := by decide +kernel
theorem dc_MO_reach_17 : decode cd_MO_reach 17 = .ok (.iastore, 1) := by decide +kernel
theorem dc_MO_reach_18 : decode cd_MO_reach 18 = .ok (.aload_n 0, 1) := by decide +kernel
theorem dc_MO_reach_19 : decode cd_MO_reach 19 = .ok (.getfield 25, 3) := by decide +kernel
theorem dc_MO_reach_22 : decode cd_MO_reach 22 = .ok (.iload_n 2, 1) := by decide +kernel
theorem dc_MO_reach_23 : decode cd_MO_reach 23 = .ok (.iload_n 1, 1) := by decide +kernel
theorem dc_MO_reach_24 : decode cd_MO_reach 24 = .ok (.iastore, 1) := by decide +kernel
theorem dc_MO_reach_25 : decode cd_MO_reach 25 = .ok (.iload_n 2, 1) := by decide +kernel
theorem dc_MO_reach_26 : decode cd_MO_reach 26 = .ok (.iconst 1, 1) := by decide +kernel
theorem dc_MO_reach_27 : decode cd_MO_reach 27 = .ok (.iadd, 1) := by decide +kernel
theorem dc_MO_reach_28 : decode cd_MO_reach 28 = .ok (.ireturn, 1) := by decide +kernel
theorem dc_MO_count1_0 : decode cd_MO_count1 0 = .ok (.iload_n 1, 1) := by decide +kernel
theorem dc_MO_count1_1 : decode cd_MO_count1 1 = .ok (.ifCond .ne 10, 3) := by decide +kernel
theorem dc_MO_count1_4 : decode cd_MO_count1 4 = .ok (.aload_n 0, 1) := by decide +kernel
theorem dc_MO_count1_5 : decode cd_MO_count1 5 = .ok (.getfield 58, 3) := by decide +kernel
theorem dc_MO_count1_8 : decode cd_MO_count1 8 = .ok (.goto 16, 3) := by decide +kernel
theorem dc_MO_count1_11 : decode cd_MO_count1 11 = .ok (.iload_n 1, 1) := by decide +kernel
theorem dc_MO_count1_12 : decode cd_MO_count1 12 = .ok (.iconst 1, 1) := by decide +kernel
theorem dc_MO_count1_13 : decode cd_MO_count1 13 = .ok (.if_icmp .ne 10, 3) := by decide +kernel
theorem dc_MO_count1_16 : decode cd_MO_count1 16 = .ok (.aload_n 0, 1) := by decide +kernel
theorem dc_MO_count1_17 : decode cd_MO_count1 17 = .ok (.getfield 37, 3) := by decide +kernel
theorem dc_MO_count1_20 : decode cd_MO_count1 20 = .ok (.goto 4, 3) := by decide +kernel
theorem dc_MO_count1_23 : decode cd_MO_count1 23 = .ok (.iconst (-1), 1) := by decide +kernel
theorem dc_MO_count1_24 : decode cd_MO_count1 24 = .ok (.ireturn, 1) := by decide +kernel
theorem dc_LW_law_0 : decode cd_LW_law 0 = .ok (.new 7, 3) := by decide +kernel
theorem dc_LW_law_3 : decode cd_LW_law 3 = .ok (.dup, 1) := by decide +kernel
theorem dc_LW_law_4 : decode cd_LW_law 4 = .ok (.invokespecial 9, 3) := by decide +kernel
theorem dc_LW_law_7 : decode cd_LW_law 7 = .ok (.astore_n 1, 1) := by decide +kernel
theorem dc_LW_law_8 : decode cd_LW_law 8 = .ok (.new 10, 3) := by decide +kernel
theorem dc_LW_law_11 : decode cd_LW_law 11 = .ok (.dup, 1) := by decide +kernel
theorem dc_LW_law_12 : decode cd_LW_law 12 = .ok (.invokespecial 12, 3) := by decide +kernel
theorem dc_LW_law_15 : decode cd_LW_law 15 = .ok (.astore_n 2, 1) := by decide +kernel
theorem dc_LW_law_16 : decode cd_LW_law 16 = .ok (.iconst 0, 1) := by decide +kernel
theorem dc_LW_law_17 : decode cd_LW_law 17 = .ok (.istore_n 3, 1) := by decide +kernel
theorem dc_LW_law_18 : decode cd_LW_law 18 = .ok (.iload_n 3, 1) := by decide +kernel
theorem dc_LW_law_19 : decode cd_LW_law 19 = .ok (.aload_n 0, 1) := by decide +kernel
theorem dc_LW_law_20 : decode cd_LW_law 20 = .ok (.arraylength, 1) := by decide +kernel
theorem dc_LW_law_21 : decode cd_LW_law 21 = .ok (.iconst 4, 1) := by decide +kernel
theorem dc_LW_law_22 : decode cd_LW_law 22 = .ok (.isub, 1) := by decide +kernel
theorem dc_LW_law_23 : decode cd_LW_law 23 = .ok (.if_icmp .gt 416, 3) := by decide +kernel
theorem dc_LW_law_26 : decode cd_LW_law 26 = .ok (.aload_n 0, 1) := by decide +kernel
theorem dc_LW_law_27 : decode cd_LW_law 27 = .ok (.iload_n 3, 1) := by decide +kernel
theorem dc_LW_law_28 : decode cd_LW_law 28 = .ok (.iaload, 1) := by decide +kernel
theorem dc_LW_law_29 : decode cd_LW_law 29 = .ok (.bipush 15, 2) := by decide +kernel
theorem dc_LW_law_31 : decode cd_LW_law 31 = .ok (.iand, 1) := by decide +kernel
theorem dc_LW_law_32 : decode cd_LW_law 32 = .ok (.tableswitch 401 0 11 #[64, 87, 120, 153, 186, 229, 262, 296, 319, 342, 365, 378], 64) := by decide +kernel
theorem dc_LW_law_96 : decode cd_LW_law 96 = .ok (.aload_n 1, 1) := by decide +kernel
theorem dc_LW_law_97 : decode cd_LW_law 97 = .ok (.aload_n 0, 1) := by decide +kernel
theorem dc_LW_law_98 : decode cd_LW_law 98 = .ok (.iload_n 3, 1) := by decide +kernel
theorem dc_LW_law_99 : decode cd_LW_law 99 = .ok (.iconst 1, 1) := by decide +kernel
theorem dc_LW_law_100 : decode cd_LW_law 100 = .ok (.iadd, 1) := by decide +kernel
theorem dc_LW_law_101 : decode cd_LW_law 101 = .ok (.iaload, 1) := by decide +kernel
theorem dc_LW_law_102 : decode cd_LW_law 102 = .ok (.invokevirtual 13, 3) := by decide +kernel
theorem dc_LW_law_105 : decode cd_LW_law 105 = .ok (.aload_n 2, 1) := by decide +kernel
theorem dc_LW_law_106 : decode cd_LW_law 106 = .ok (.aload_n 0, 1) := by decide +kernel
theorem dc_LW_law_107 : decode cd_LW_law 107 = .ok (.iload_n 3, 1) := by decide +kernel
theorem dc_LW_law_108 : decode cd_LW_law 108 = .ok (.iconst 1, 1) := by decide +kernel
theorem dc_LW_law_109 : decode cd_LW_law 109 = .ok (.iadd, 1) := by decide +kernel
theorem dc_LW_law_110 : decode cd_LW_law 110 = .ok (.iaload, 1) := by decide +kernel
theorem dc_LW_law_111 : decode cd_LW_law 111 = .ok (.invokevirtual 17, 3) := by decide +kernel
theorem dc_LW_law_114 : decode cd_LW_law 114 = .ok (.if_icmp .eq 319, 3) := by decide +kernel
theorem dc_LW_law_117 : decode cd_LW_law 117 = .ok (.iconst 0, 1) := by decide +kernel
theorem dc_LW_law_118 : decode cd_LW_law 118 = .ok (.ireturn, 1) := by decide +kernel
theorem dc_LW_law_119 : decode cd_LW_law 119 = .ok (.aload_n 1, 1) := by decide +kernel
theorem dc_LW_law_120 : decode cd_LW_law 120 = .ok (.aload_n 0, 1) := by decide +kernel
theorem dc_LW_law_121 : decode cd_LW_law 121 = .ok (.iload_n 3, 1) := by decide +kernel
theorem dc_LW_law_122 : decode cd_LW_law 122 = .ok (.iconst 1, 1) := by decide +kernel
theorem dc_LW_law_123 : decode cd_LW_law 123 = .ok (.iadd, 1) := by decide +kernel
theorem dc_LW_law_124 : decode cd_LW_law 124 = .ok (.iaload, 1) := by decide +kernel
theorem dc_LW_law_125 : decode cd_LW_law 125 = .ok (.aload_n 0, 1) := by decide +kernel
theorem dc_LW_law_126 : decode cd_LW_law 126 = .ok (.iload_n 3, 1) := by decide +kernel
theorem dc_LW_law_127 : decode cd_LW_law 127 = .ok (.iconst 2, 1) := by decide +kernel
theorem dc_LW_law_128 : decode cd_LW_law 128 = .ok (.iadd, 1) := by decide +kernel
theorem dc_LW_law_129 : decode cd_LW_law 129 = .ok (.iaload, 1) := by decide +kernel
theorem dc_LW_law_130 : decode cd_LW_law 130 = .ok (.invokevirtual 18, 3) := by decide +kernel
theorem dc_LW_law_133 : decode cd_LW_law 133 = .ok (.aload_n 2, 1) := by decide +kernel
theorem dc_LW_law_134 : decode cd_LW_law 134 = .ok (.aload_n 0, 1) := by decide +kernel
theorem dc_LW_law_135 : decode cd_LW_law 135 = .ok (.iload_n 3, 1) := by decide +kernel
theorem dc_LW_law_136 : decode cd_LW_law 136 = .ok (.iconst 1, 1) := by decide +kernel
theorem dc_LW_law_137 : decode cd_LW_law 137 = .ok (.iadd, 1) := by decide +kernel
theorem dc_LW_law_138 : decode cd_LW_law 138 = .ok (.iaload, 1) := by decide +kernel
theorem dc_LW_law_139 : decode cd_LW_law 139 = .ok (.aload_n 0, 1) := by decide +kernel
theorem dc_LW_law_140 : decode cd_LW_law 140 = .ok (.iload_n 3, 1) := by decide +kernel
theorem dc_LW_law_141 : decode cd_LW_law 141 = .ok (.iconst 2, 1) := by decide +kernel
theorem dc_LW_law_142 : decode cd_LW_law 142 = .ok (.iadd, 1) := by decide +kernel
theorem dc_LW_law_143 : decode cd_LW_law 143 = .ok (.iaload, 1) := by decide +kernel
theorem dc_LW_law_144 : decode cd_LW_law 144 = .ok (.invokevirtual 22, 3) := by decide +kernel
theorem dc_LW_law_147 : decode cd_LW_law 147 = .ok (.if_icmp .eq 286, 3) := by decide +kernel
theorem dc_LW_law_150 : decode cd_LW_law 150 = .ok (.iconst 0, 1) := by decide +kernel
theorem dc_LW_law_151 : decode cd_LW_law 151 = .ok (.ireturn, 1) := by decide +kernel
theorem dc_LW_law_152 : decode cd_LW_law 152 = .ok (.aload_n 1, 1) := by decide +kernel
theorem dc_LW_law_153 : decode cd_LW_law 153 = .ok (.aload_n 0, 1) := by decide +kernel
theorem dc_LW_law_154 : decode cd_LW_law 154 = .ok (.iload_n 3, 1) := by decide +kernel
theorem dc_LW_law_155 : decode cd_LW_law 155 = .ok (.iconst 1, 1) := by decide +kernel
theorem dc_LW_law_156 : decode cd_LW_law 156 = .ok (.iadd, 1) := by decide +kernel
theorem dc_LW_law_157 : decode cd_LW_law 157 = .ok (.iaload, 1) := by decide +kernel
theorem dc_LW_law_158 : decode cd_LW_law 158 = .ok (.aload_n 0, 1) := by decide +kernel
theorem dc_LW_law_159 : decode cd_LW_law 159 = .ok (.iload_n 3, 1) := by decide +kernel
theorem dc_LW_law_160 : decode cd_LW_law 160 = .ok (.iconst 2, 1) := by decide +kernel
theorem dc_LW_law_161 : decode cd_LW_law 161 = .ok (.iadd, 1) := by decide +kernel
theorem dc_LW_law_162 : decode cd_LW_law 162 = .ok (.iaload, 1) := by decide +kernel
theorem dc_LW_law_163 : decode cd_LW_law 163 = .ok (.invokevirtual 23, 3) := by decide +kernel
theorem dc_LW_law_166 : decode cd_LW_law 166 = .ok (.aload_n 2, 1) := by decide +kernel
theorem dc_LW_law_167 : decode cd_LW_law 167 = .ok (.aload_n 0, 1) := by decide +kernel
theorem dc_LW_law_168 : decode cd_LW_law 168 = .ok (.iload_n 3, 1) := by decide +kernel
theorem dc_LW_law_169 : decode cd_LW_law 169 = .ok (.iconst 1, 1) := by decide +kernel
theorem dc_LW_law_170 : decode cd_LW_law 170 = .ok (.iadd, 1) := by decide +kernel
theorem dc_LW_law_171 : decode cd_LW_law 171 = .ok (.iaload, 1) := by decide +kernel
theorem dc_LW_law_172 : decode cd_LW_law 172 = .ok (.aload_n 0, 1) := by decide +kernel
theorem dc_LW_law_173 : decode cd_LW_law 173 = .ok (.iload_n 3, 1) := by decide +kernel
