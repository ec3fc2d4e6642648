theorem dc_TH_init_0 : decode cd_TH_init 0 = .ok (.aload_n 0, 1) := by decide +kernel
theorem dc_TH_init_1 : decode cd_TH_init 1 = .ok (.invokespecial 1, 3) := by decide +kernel
theorem dc_TH_init_4 : decode cd_TH_init 4 = .ok (.aload_n 0, 1) := by decide +kernel
theorem dc_TH_init_5 : decode cd_TH_init 5 = .ok (.bipush 16, 2) := by decide +kernel
theorem dc_TH_init_7 : decode cd_TH_init 7 = .ok (.anewarray 9, 3) := by decide +kernel
theorem dc_TH_init_10 : decode cd_TH_init 10 = .ok (.putfield 11, 3) := by decide +kernel
theorem dc_TH_init_13 : decode cd_TH_init 13 = .ok (.aload_n 0, 1) := by decide +kernel
theorem dc_TH_init_14 : decode cd_TH_init 14 = .ok (.new 15, 3) := by decide +kernel
theorem dc_TH_init_17 : decode cd_TH_init 17 = .ok (.dup, 1) := by decide +kernel
theorem dc_TH_init_18 : decode cd_TH_init 18 = .ok (.invokespecial 17, 3) := by decide +kernel
theorem dc_TH_init_21 : decode cd_TH_init 21 = .ok (.putfield 18, 3) := by decide +kernel
theorem dc_TH_init_24 : decode cd_TH_init 24 = .ok (.aload_n 0, 1) := by decide +kernel
theorem dc_TH_init_25 : decode cd_TH_init 25 = .ok (.new 15, 3) := by decide +kernel
theorem dc_TH_init_28 : decode cd_TH_init 28 = .ok (.dup, 1) := by decide +kernel
theorem dc_TH_init_29 : decode cd_TH_init 29 = .ok (.invokespecial 17, 3) := by decide +kernel
theorem dc_TH_init_32 : decode cd_TH_init 32 = .ok (.putfield 22, 3) := by decide +kernel
theorem dc_TH_init_35 : decode cd_TH_init 35 = .ok (.aload_n 0, 1) := by decide +kernel
theorem dc_TH_init_36 : decode cd_TH_init 36 = .ok (.new 15, 3) := by decide +kernel
theorem dc_TH_init_39 : decode cd_TH_init 39 = .ok (.dup, 1) := by decide +kernel
theorem dc_TH_init_40 : decode cd_TH_init 40 = .ok (.invokespecial 17, 3) := by decide +kernel
theorem dc_TH_init_43 : decode cd_TH_init 43 = .ok (.putfield 25, 3) := by decide +kernel
theorem dc_TH_init_46 : decode cd_TH_init 46 = .ok (.aload_n 0, 1) := by decide +kernel
theorem dc_TH_init_47 : decode cd_TH_init 47 = .ok (.iconst 0, 1) := by decide +kernel
theorem dc_TH_init_48 : decode cd_TH_init 48 = .ok (.putfield 28, 3) := by decide +kernel
theorem dc_TH_init_51 : decode cd_TH_init 51 = .ok (.return_, 1) := by decide +kernel
theorem dc_AL_init_0 : decode cd_AL_init 0 = .ok (.aload_n 0, 1) := by decide +kernel
theorem dc_AL_init_1 : decode cd_AL_init 1 = .ok (.invokespecial 1, 3) := by decide +kernel
theorem dc_AL_init_4 : decode cd_AL_init 4 = .ok (.aload_n 0, 1) := by decide +kernel
theorem dc_AL_init_5 : decode cd_AL_init 5 = .ok (.getstatic 39, 3) := by decide +kernel
theorem dc_AL_init_8 : decode cd_AL_init 8 = .ok (.putfield 9, 3) := by decide +kernel
theorem dc_AL_init_11 : decode cd_AL_init 11 = .ok (.return_, 1) := by decide +kernel
theorem dc_AB_init_0 : decode cd_AB_init 0 = .ok (.aload_n 0, 1) := by decide +kernel
theorem dc_AB_init_1 : decode cd_AB_init 1 = .ok (.invokespecial 1, 3) := by decide +kernel
theorem dc_AB_init_4 : decode cd_AB_init 4 = .ok (.aload_n 0, 1) := by decide +kernel
theorem dc_AB_init_5 : decode cd_AB_init 5 = .ok (.iconst 0, 1) := by decide +kernel
theorem dc_AB_init_6 : decode cd_AB_init 6 = .ok (.putfield 7, 3) := by decide +kernel
theorem dc_AB_init_9 : decode cd_AB_init 9 = .ok (.return_, 1) := by decide +kernel
theorem dc_AC_init_0 : decode cd_AC_init 0 = .ok (.aload_n 0, 1) := by decide +kernel
theorem dc_AC_init_1 : decode cd_AC_init 1 = .ok (.invokespecial 1, 3) := by decide +kernel
theorem dc_AC_init_4 : decode cd_AC_init 4 = .ok (.return_, 1) := by decide +kernel
theorem dc_TH_make_0 : decode cd_TH_make 0 = .ok (.iload_n 1, 1) := by decide +kernel
theorem dc_TH_make_1 : decode cd_TH_make 1 = .ok (.invokestatic 32, 3) := by decide +kernel
theorem dc_TH_make_4 : decode cd_TH_make 4 = .ok (.ifCond .ne 5, 3) := by decide +kernel
theorem dc_TH_make_7 : decode cd_TH_make 7 = .ok (.iconst (-1), 1) := by decide +kernel
theorem dc_TH_make_8 : decode cd_TH_make 8 = .ok (.ireturn, 1) := by decide +kernel
theorem dc_TH_make_9 : decode cd_TH_make 9 = .ok (.aload_n 0, 1) := by decide +kernel
theorem dc_TH_make_10 : decode cd_TH_make 10 = .ok (.getfield 18, 3) := by decide +kernel
theorem dc_TH_make_13 : decode cd_TH_make 13 = .ok (.invokevirtual 36, 3) := by decide +kernel
theorem dc_TH_make_16 : decode cd_TH_make 16 = .ok (.sipush 1500, 3) := by decide +kernel
theorem dc_TH_make_19 : decode cd_TH_make 19 = .ok (.if_icmp .lt 6, 3) := by decide +kernel
theorem dc_TH_make_22 : decode cd_TH_make 22 = .ok (.bipush (-3), 2) := by decide +kernel
theorem dc_TH_make_24 : decode cd_TH_make 24 = .ok (.ireturn, 1) := by decide +kernel
theorem dc_TH_make_25 : decode cd_TH_make 25 = .ok (.new 9, 3) := by decide +kernel
theorem dc_TH_make_28 : decode cd_TH_make 28 = .ok (.dup, 1) := by decide +kernel
theorem dc_TH_make_29 : decode cd_TH_make 29 = .ok (.aload_n 0, 1) := by decide +kernel
theorem dc_TH_make_30 : decode cd_TH_make 30 = .ok (.getfield 28, 3) := by decide +kernel
theorem dc_TH_make_33 : decode cd_TH_make 33 = .ok (.invokespecial 40, 3) := by decide +kernel
theorem dc_TH_make_36 : decode cd_TH_make 36 = .ok (.astore_n 2, 1) := by decide +kernel
theorem dc_TH_make_37 : decode cd_TH_make 37 = .ok (.aload_n 0, 1) := by decide +kernel
theorem dc_TH_make_38 : decode cd_TH_make 38 = .ok (.dup, 1) := by decide +kernel
theorem dc_TH_make_39 : decode cd_TH_make 39 = .ok (.getfield 28, 3) := by decide +kernel
theorem dc_TH_make_42 : decode cd_TH_make 42 = .ok (.iconst 1, 1) := by decide +kernel
theorem dc_TH_make_43 : decode cd_TH_make 43 = .ok (.iadd, 1) := by decide +kernel
theorem dc_TH_make_44 : decode cd_TH_make 44 = .ok (.putfield 28, 3) := by decide +kernel
theorem dc_TH_make_47 : decode cd_TH_make 47 = .ok (.aload_n 0, 1) := by decide +kernel
theorem dc_TH_make_48 : decode cd_TH_make 48 = .ok (.getfield 18, 3) := by decide +kernel
theorem dc_TH_make_51 : decode cd_TH_make 51 = .ok (.aload_n 2, 1) := by decide +kernel
theorem dc_TH_make_52 : decode cd_TH_make 52 = .ok (.invokevirtual 43, 3) := by decide +kernel
theorem dc_TH_make_55 : decode cd_TH_make 55 = .ok (.pop, 1) := by decide +kernel
theorem dc_TH_make_56 : decode cd_TH_make 56 = .ok (.aload_n 0, 1) := by decide +kernel
theorem dc_TH_make_57 : decode cd_TH_make 57 = .ok (.iload_n 1, 1) := by decide +kernel
theorem dc_TH_make_58 : decode cd_TH_make 58 = .ok (.aload_n 2, 1) := by decide +kernel
theorem dc_TH_make_59 : decode cd_TH_make 59 = .ok (.invokevirtual 47, 3) := by decide +kernel
theorem dc_TH_make_62 : decode cd_TH_make 62 = .ok (.aload_n 2, 1) := by decide +kernel
theorem dc_TH_make_63 : decode cd_TH_make 63 = .ok (.getfield 51, 3) := by decide +kernel
theorem dc_TH_make_66 : decode cd_TH_make 66 = .ok (.ireturn, 1) := by decide +kernel
theorem dc_TH_isRoot_0 : decode cd_TH_isRoot 0 = .ok (.iload_n 0, 1) := by decide +kernel
theorem dc_TH_isRoot_1 : decode cd_TH_isRoot 1 = .ok (.ifCond .lt 13, 3) := by decide +kernel
theorem dc_TH_isRoot_4 : decode cd_TH_isRoot 4 = .ok (.iload_n 0, 1) := by decide +kernel
theorem dc_TH_isRoot_5 : decode cd_TH_isRoot 5 = .ok (.bipush 16, 2) := by decide +kernel
theorem dc_TH_isRoot_7 : decode cd_TH_isRoot 7 = .ok (.if_icmp .ge 7, 3) := by decide +kernel
theorem dc_TH_isRoot_10 : decode cd_TH_isRoot 10 = .ok (.iconst 1, 1) := by decide +kernel
theorem dc_TH_isRoot_11 : decode cd_TH_isRoot 11 = .ok (.goto 4, 3) := by decide +kernel
theorem dc_TH_isRoot_14 : decode cd_TH_isRoot 14 = .ok (.iconst 0, 1) := by decide +kernel
theorem dc_TH_isRoot_15 : decode cd_TH_isRoot 15 = .ok (.ireturn, 1) := by decide +kernel
theorem dc_AL_size_0 : decode cd_AL_size 0 = .ok (.aload_n 0, 1) := by decide +kernel
theorem dc_AL_size_1 : decode cd_AL_size 1 = .ok (.getfield 48, 3) := by decide +kernel
theorem dc_AL_size_4 : decode cd_AL_size 4 = .ok (.ireturn, 1) := by decide +kernel
theorem dc_TG_init_0 : decode cd_TG_init 0 = .ok (.aload_n 0, 1) := by decide +kernel
theorem dc_TG_init_1 : decode cd_TG_init 1 = .ok (.invokespecial 1, 3) := by decide +kernel
theorem dc_TG_init_4 : decode cd_TG_init 4 = .ok (.aload_n 0, 1) := by decide +kernel
theorem dc_TG_init_5 : decode cd_TG_init 5 = .ok (.new 7, 3) := by decide +kernel
theorem dc_TG_init_8 : decode cd_TG_init 8 = .ok (.dup, 1) := by decide +kernel
theorem dc_TG_init_9 : decode cd_TG_init 9 = .ok (.invokespecial 9, 3) := by decide +kernel
theorem dc_TG_init_12 : decode cd_TG_init 12 = .ok (.putfield 10, 3) := by decide +kernel
theorem dc_TG_init_15 : decode cd_TG_init 15 = .ok (.aload_n 0, 1) := by decide +kernel
theorem dc_TG_init_16 : decode cd_TG_init 16 = .ok (.iconst 0, 1) := by decide +kernel
theorem dc_TG_init_17 : decode cd_TG_init 17 = .ok (.putfield 16, 3) := by decide +kernel
theorem dc_TG_init_20 : decode cd_TG_init 20 = .ok (.aload_n 0, 1) := by decide +kernel
theorem dc_TG_init_21 : decode cd_TG_init 21 = .ok (.iconst 0, 1) := by decide +kernel
theorem dc_TG_init_22 : decode cd_TG_init 22 = .ok (.putfield 20, 3) := by decide +kernel
theorem dc_TG_init_25 : decode cd_TG_init 25 = .ok (.aload_n 0, 1) := by decide +kernel
theorem dc_TG_init_26 : decode cd_TG_init 26 = .ok (.iload_n 1, 1) := by decide +kernel
theorem dc_TG_init_27 : decode cd_TG_init 27 = .ok (.putfield 24, 3) := by decide +kernel
theorem dc_TG_init_30 : decode cd_TG_init 30 = .ok (.return_, 1) := by decide +kernel
theorem dc_AL_add1_0 : decode cd_AL_add1 0 = .ok (.aload_n 0, 1) := by decide +kernel
theorem dc_AL_add1_1 : decode cd_AL_add1 1 = .ok (.dup, 1) := by decide +kernel
theorem dc_AL_add1_2 : decode cd_AL_add1 2 = .ok (.getfield 63, 3) := by decide +kernel
theorem dc_AL_add1_5 : decode cd_AL_add1 5 = .ok (.iconst 1, 1) := by decide +kernel
theorem dc_AL_add1_6 : decode cd_AL_add1 6 = .ok (.iadd, 1) := by decide +kernel
theorem dc_AL_add1_7 : decode cd_AL_add1 7 = .ok (.putfield 63, 3) := by decide +kernel
theorem dc_AL_add1_10 : decode cd_AL_add1 10 = .ok (.aload_n 0, 1) := by decide +kernel
theorem dc_AL_add1_11 : decode cd_AL_add1 11 = .ok (.aload_n 1, 1) := by decide +kernel
theorem dc_AL_add1_12 : decode cd_AL_add1 12 = .ok (.aload_n 0, 1) := by decide +kernel
theorem dc_AL_add1_13 : decode cd_AL_add1 13 = .ok (.getfield 9, 3) := by decide +kernel
theorem dc_AL_add1_16 : decode cd_AL_add1 16 = .ok (.aload_n 0, 1) := by decide +kernel
theorem dc_AL_add1_17 : decode cd_AL_add1 17 = .ok (.getfield 48, 3) := by decide +kernel
theorem dc_AL_add1_20 : decode cd_AL_add1 20 = .ok (.invokevirtual 131, 3) := by decide +kernel
theorem dc_AL_add1_23 : decode cd_AL_add1 23 = .ok (.iconst 1, 1) := by decide +kernel
theorem dc_AL_add1_24 : decode cd_AL_add1 24 = .ok (.ireturn, 1) := by decide +kernel
theorem dc_AL_add3_0 : decode cd_AL_add3 0 = .ok (.iload_n 3, 1) := by decide +kernel
theorem dc_AL_add3_1 : decode cd_AL_add3 1 = .ok (.aload_n 2, 1) := by decide +kernel
theorem dc_AL_add3_2 : decode cd_AL_add3 2 = .ok (.arraylength, 1) := by decide +kernel
theorem dc_AL_add3_3 : decode cd_AL_add3 3 = .ok (.if_icmp .ne 8, 3) := by decide +kernel
theorem dc_AL_add3_6 : decode cd_AL_add3 6 = .ok (.aload_n 0, 1) := by decide +kernel
theorem dc_AL_add3_7 : decode cd_AL_add3 7 = .ok (.invokevirtual 129, 3) := by decide +kernel
theorem dc_AL_add3_10 : decode cd_AL_add3 10 = .ok (.astore_n 2, 1) := by decide +kernel
theorem dc_AL_add3_11 : decode cd_AL_add3 11 = .ok (.aload_n 2, 1) := by decide +kernel
theorem dc_AL_add3_12 : decode cd_AL_add3 12 = .ok (.iload_n 3, 1) := by decide +kernel
theorem dc_AL_add3_13 : decode cd_AL_add3 13 = .ok (.aload_n 1, 1) := by decide +kernel
theorem dc_AL_add3_14 : decode cd_AL_add3 14 = .ok (.aastore, 1) := by decide +kernel
theorem dc_AL_add3_15 : decode cd_AL_add3 15 = .ok (.aload_n 0, 1) := by decide +kernel
theorem dc_AL_add3_16 : decode cd_AL_add3 16 = .ok (.iload_n 3, 1) := by decide +kernel
theorem dc_AL_add3_17 : decode cd_AL_add3 17 = .ok (.iconst 1, 1) := by decide +kernel
theorem dc_AL_add3_18 : decode cd_AL_add3 18 = .ok (.iadd, 1) := by decide +kernel
theorem dc_AL_add3_19 : decode cd_AL_add3 19 = .ok (.putfield 48, 3) := by decide +kernel
theorem dc_AL_add3_22 : decode cd_AL_add3 22 = .ok (.return_, 1) := by decide +kernel
theorem dc_AL_grow0_0 : decode cd_AL_grow0 0 = .ok (.aload_n 0, 1) := by decide +kernel
theorem dc_AL_grow0_1 : decode cd_AL_grow0 1 = .ok (.aload_n 0, 1) := by decide +kernel
theorem dc_AL_grow0_2 : decode cd_AL_grow0 2 = .ok (.getfield 48, 3) := by decide +kernel
theorem dc_AL_grow0_5 : decode cd_AL_grow0 5 = .ok (.iconst 1, 1) := by decide +kernel
theorem dc_AL_grow0_6 : decode cd_AL_grow0 6 = .ok (.iadd, 1) := by decide +kernel
theorem dc_AL_grow0_7 : decode cd_AL_grow0 7 = .ok (.invokevirtual 69, 3) := by decide +kernel
theorem dc_AL_grow0_10 : decode cd_AL_grow0 10 = .ok (.areturn, 1) := by decide +kernel
theorem dc_AL_grow1_0 : decode cd_AL_grow1 0 = .ok (.aload_n 0, 1) := by decide +kernel
theorem dc_AL_grow1_1 : decode cd_AL_grow1 1 = .ok (.getfield 9, 3) := by decide +kernel
theorem dc_AL_grow1_4 : decode cd_AL_grow1 4 = .ok (.arraylength, 1) := by decide +kernel
theorem dc_AL_grow1_5 : decode cd_AL_grow1 5 = .ok (.istore_n 2, 1) := by decide +kernel
theorem dc_AL_grow1_6 : decode cd_AL_grow1 6 = .ok (.iload_n 2, 1) := by decide +kernel
theorem dc_AL_grow1_7 : decode cd_AL_grow1 7 = .ok (.ifCond .gt 13, 3) := by decide +kernel
theorem dc_AL_grow1_10 : decode cd_AL_grow1 10 = .ok (.aload_n 0, 1) := by decide +kernel
theorem dc_AL_grow1_11 : decode cd_AL_grow1 11 = .ok (.getfield 9, 3) := by decide +kernel
theorem dc_AL_grow1_14 : decode cd_AL_grow1 14 = .ok (.getstatic 39, 3) := by decide +kernel
theorem dc_AL_grow1_17 : decode cd_AL_grow1 17 = .ok (.if_acmp .eq 28, 3) := by decide +kernel
theorem dc_AL_grow1_20 : decode cd_AL_grow1 20 = .ok (.iload_n 2, 1) := by decide +kernel
theorem dc_AL_grow1_21 : decode cd_AL_grow1 21 = .ok (.iload_n 1, 1) := by decide +kernel
theorem dc_AL_grow1_22 : decode cd_AL_grow1 22 = .ok (.iload_n 2, 1) := by decide +kernel
theorem dc_AL_grow1_23 : decode cd_AL_grow1 23 = .ok (.isub, 1) := by decide +kernel
theorem dc_AL_grow1_24 : decode cd_AL_grow1 24 = .ok (.iload_n 2, 1) := by decide +kernel
theorem dc_AL_grow1_25 : decode cd_AL_grow1 25 = .ok (.iconst 1, 1) := by decide +kernel
theorem dc_AL_grow1_26 : decode cd_AL_grow1 26 = .ok (.ishr, 1) := by decide +kernel
theorem dc_AL_grow1_27 : decode cd_AL_grow1 27 = .ok (.invokestatic 73, 3) := by decide +kernel
theorem dc_AL_grow1_30 : decode cd_AL_grow1 30 = .ok (.istore_n 3, 1) := by decide +kernel
theorem dc_AL_grow1_31 : decode cd_AL_grow1 31 = .ok (.aload_n 0, 1) := by decide +kernel
theorem dc_AL_grow1_32 : decode cd_AL_grow1 32 = .ok (.aload_n 0, 1) := by decide +kernel
theorem dc_AL_grow1_33 : decode cd_AL_grow1 33 = .ok (.getfield 9, 3) := by decide +kernel
theorem dc_AL_grow1_36 : decode cd_AL_grow1 36 = .ok (.iload_n 3, 1) := by decide +kernel
theorem dc_AL_grow1_37 : decode cd_AL_grow1 37 = .ok (.invokestatic 66, 3) := by decide +kernel
theorem dc_AL_grow1_40 : decode cd_AL_grow1 40 = .ok (.dup_x1, 1) := by decide +kernel
theorem dc_AL_grow1_41 : decode cd_AL_grow1 41 = .ok (.putfield 9, 3) := by decide +kernel
theorem dc_AL_grow1_44 : decode cd_AL_grow1 44 = .ok (.areturn, 1) := by decide +kernel
theorem dc_AL_grow1_45 : decode cd_AL_grow1 45 = .ok (.aload_n 0, 1) := by decide +kernel
theorem dc_AL_grow1_46 : decode cd_AL_grow1 46 = .ok (.bipush 10, 2) := by decide +kernel
theorem dc_AL_grow1_48 : decode cd_AL_grow1 48 = .ok (.iload_n 1, 1) := by decide +kernel
theorem dc_AL_grow1_49 : decode cd_AL_grow1 49 = .ok (.invokestatic 79, 3) := by decide +kernel
theorem dc_AL_grow1_52 : decode cd_AL_grow1 52 = .ok (.anewarray 7, 3) := by decide +kernel
theorem dc_AL_grow1_55 : decode cd_AL_grow1 55 = .ok (.dup_x1, 1) := by decide +kernel
theorem dc_AL_grow1_56 : decode cd_AL_grow1 56 = .ok (.putfield 9, 3) := by decide +kernel
theorem dc_AL_grow1_59 : decode cd_AL_grow1 59 = .ok (.areturn, 1) := by decide +kernel
theorem dc_AS_newLength_0 : decode cd_AS_newLength 0 = .ok (.iload_n 0, 1) := by decide +kernel
theorem dc_AS_newLength_1 : decode cd_AS_newLength 1 = .ok (.iload_n 1, 1) := by decide +kernel
theorem dc_AS_newLength_2 : decode cd_AS_newLength 2 = .ok (.iload_n 2, 1) := by decide +kernel
theorem dc_AS_newLength_3 : decode cd_AS_newLength 3 = .ok (.invokestatic 194, 3) := by decide +kernel
theorem dc_AS_newLength_6 : decode cd_AS_newLength 6 = .ok (.iadd, 1) := by decide +kernel
theorem dc_AS_newLength_7 : decode cd_AS_newLength 7 = .ok (.istore_n 3, 1) := by decide +kernel
theorem dc_AS_newLength_8 : decode cd_AS_newLength 8 = .ok (.iconst 0, 1) := by decide +kernel
theorem dc_AS_newLength_9 : decode cd_AS_newLength 9 = .ok (.iload_n 3, 1) := by decide +kernel
theorem dc_AS_newLength_10 : decode cd_AS_newLength 10 = .ok (.if_icmp .ge 11, 3) := by decide +kernel
theorem dc_AS_newLength_13 : decode cd_AS_newLength 13 = .ok (.iload_n 3, 1) := by decide +kernel
theorem dc_AS_newLength_14 : decode cd_AS_newLength 14 = .ok (.ldc 200, 2) := by decide +kernel
theorem dc_AS_newLength_16 : decode cd_AS_newLength 16 = .ok (.if_icmp .gt 5, 3) := by decide +kernel
theorem dc_AS_newLength_19 : decode cd_AS_newLength 19 = .ok (.iload_n 3, 1) := by decide +kernel
theorem dc_AS_newLength_20 : decode cd_AS_newLength 20 = .ok (.ireturn, 1) := by decide +kernel
theorem dc_AS_newLength_21 : decode cd_AS_newLength 21 = .ok (.iload_n 0, 1) := by decide +kernel
theorem dc_AS_newLength_22 : decode cd_AS_newLength 22 = .ok (.iload_n 1, 1) := by decide +kernel
theorem dc_AS_newLength_23 : decode cd_AS_newLength 23 = .ok (.invokestatic 201, 3) := by decide +kernel
theorem dc_AS_newLength_26 : decode cd_AS_newLength 26 = .ok (.ireturn, 1) := by decide +kernel
theorem dc_MA_max_0 : decode cd_MA_max 0 = .ok (.iload_n 0, 1) := by decide +kernel
theorem dc_MA_max_1 : decode cd_MA_max 1 = .ok (.iload_n 1, 1) := by decide +kernel
theorem dc_MA_max_2 : decode cd_MA_max 2 = .ok (.if_icmp .lt 7, 3) := by decide +kernel
theorem dc_MA_max_5 : decode cd_MA_max 5 = .ok (.iload_n 0, 1) := by decide +kernel
theorem dc_MA_max_6 : decode cd_MA_max 6 = .ok (.goto 4, 3) := by decide +kernel
theorem dc_MA_max_9 : decode cd_MA_max 9 = .ok (.iload_n 1, 1) := by decide +kernel
theorem dc_MA_max_10 : decode cd_MA_max 10 = .ok (.ireturn, 1) := by decide +kernel
theorem dc_AS_hugeLength_0 : decode cd_AS_hugeLength 0 = .ok (.iload_n 0, 1) := by decide +kernel
theorem dc_AS_hugeLength_1 : decode cd_AS_hugeLength 1 = .ok (.iload_n 1, 1) := by decide +kernel
theorem dc_AS_hugeLength_2 : decode cd_AS_hugeLength 2 = .ok (.iadd, 1) := by decide +kernel
theorem dc_AS_hugeLength_3 : decode cd_AS_hugeLength 3 = .ok (.istore_n 2, 1) := by decide +kernel
theorem dc_AS_hugeLength_4 : decode cd_AS_hugeLength 4 = .ok (.iload_n 2, 1) := by decide +kernel
theorem dc_AS_hugeLength_5 : decode cd_AS_hugeLength 5 = .ok (.ifCond .ge 44, 3) := by decide +kernel
theorem dc_AS_hugeLength_8 : decode cd_AS_hugeLength 8 = .ok (.new 204, 3) := by decide +kernel
theorem dc_AS_hugeLength_11 : decode cd_AS_hugeLength 11 = .ok (.dup, 1) := by decide +kernel
theorem dc_AS_hugeLength_12 : decode cd_AS_hugeLength 12 = .ok (.new 89, 3) := by decide +kernel
theorem dc_AS_hugeLength_15 : decode cd_AS_hugeLength 15 = .ok (.dup, 1) := by decide +kernel
theorem dc_AS_hugeLength_16 : decode cd_AS_hugeLength 16 = .ok (.invokespecial 91, 3) := by decide +kernel
theorem dc_AS_hugeLength_19 : decode cd_AS_hugeLength 19 = .ok (.ldc 206, 2) := by decide +kernel
theorem dc_AS_hugeLength_21 : decode cd_AS_hugeLength 21 = .ok (.invokevirtual 94, 3) := by decide +kernel
theorem dc_AS_hugeLength_24 : decode cd_AS_hugeLength 24 = .ok (.iload_n 0, 1) := by decide +kernel
theorem dc_AS_hugeLength_25 : decode cd_AS_hugeLength 25 = .ok (.invokevirtual 98, 3) := by decide +kernel
theorem dc_AS_hugeLength_28 : decode cd_AS_hugeLength 28 = .ok (.ldc 208, 2) := by decide +kernel
theorem dc_AS_hugeLength_30 : decode cd_AS_hugeLength 30 = .ok (.invokevirtual 94, 3) := by decide +kernel
theorem dc_AS_hugeLength_33 : decode cd_AS_hugeLength 33 = .ok (.iload_n 1, 1) := by decide +kernel
theorem dc_AS_hugeLength_34 : decode cd_AS_hugeLength 34 = .ok (.invokevirtual 98, 3) := by decide +kernel
theorem dc_AS_hugeLength_37 : decode cd_AS_hugeLength 37 = .ok (.ldc 210, 2) := by decide +kernel
theorem dc_AS_hugeLength_39 : decode cd_AS_hugeLength 39 = .ok (.invokevirtual 94, 3) := by decide +kernel
theorem dc_AS_hugeLength_42 : decode cd_AS_hugeLength 42 = .ok (.invokevirtual 101, 3) := by decide +kernel
theorem dc_AS_hugeLength_45 : decode cd_AS_hugeLength 45 = .ok (.invokespecial 212, 3) := by decide +kernel
theorem dc_AS_hugeLength_48 : decode cd_AS_hugeLength 48 = .ok (.athrow, 1) := by decide +kernel
theorem dc_AS_hugeLength_49 : decode cd_AS_hugeLength 49 = .ok (.iload_n 2, 1) := by decide +kernel
theorem dc_AS_hugeLength_50 : decode cd_AS_hugeLength 50 = .ok (.ldc 200, 2) := by decide +kernel
theorem dc_AS_hugeLength_52 : decode cd_AS_hugeLength 52 = .ok (.if_icmp .gt 6, 3) := by decide +kernel
theorem dc_AS_hugeLength_55 : decode cd_AS_hugeLength 55 = .ok (.ldc 200, 2) := by decide +kernel
theorem dc_AS_hugeLength_57 : decode cd_AS_hugeLength 57 = .ok (.ireturn, 1) := by decide +kernel
theorem dc_AS_hugeLength_58 : decode cd_AS_hugeLength 58 = .ok (.iload_n 2, 1) := by decide +kernel
theorem dc_AS_hugeLength_59 : decode cd_AS_hugeLength 59 = .ok (.ireturn, 1) := by decide +kernel
theorem dc_AR_copyOf2_0 : decode cd_AR_copyOf2 0 = .ok (.aload_n 0, 1) := by decide +kernel
theorem dc_AR_copyOf2_1 : decode cd_AR_copyOf2 1 = .ok (.iload_n 1, 1) := by decide +kernel
theorem dc_AR_copyOf2_2 : decode cd_AR_copyOf2 2 = .ok (.aload_n 0, 1) := by decide +kernel
theorem dc_AR_copyOf2_3 : decode cd_AR_copyOf2 3 = .ok (.invokevirtual 86, 3) := by decide +kernel
theorem dc_AR_copyOf2_6 : decode cd_AR_copyOf2 6 = .ok (.invokestatic 300, 3) := by decide +kernel
theorem dc_AR_copyOf2_9 : decode cd_AR_copyOf2 9 = .ok (.areturn, 1) := by decide +kernel
theorem dc_AR_copyOf3_0 : decode cd_AR_copyOf3 0 = .ok (.aload_n 2, 1) := by decide +kernel
theorem dc_AR_copyOf3_1 : decode cd_AR_copyOf3 1 = .ok (.ldc 110, 2) := by decide +kernel
theorem dc_AR_copyOf3_3 : decode cd_AR_copyOf3 3 = .ok (.if_acmp .ne 10, 3) := by decide +kernel
theorem dc_AR_copyOf3_6 : decode cd_AR_copyOf3 6 = .ok (.iload_n 1, 1) := by decide +kernel
theorem dc_AR_copyOf3_7 : decode cd_AR_copyOf3 7 = .ok (.anewarray 2, 3) := by decide +kernel
theorem dc_AR_copyOf3_10 : decode cd_AR_copyOf3 10 = .ok (.goto 14, 3) := by decide +kernel
theorem dc_AR_copyOf3_13 : decode cd_AR_copyOf3 13 = .ok (.aload_n 2, 1) := by decide +kernel
theorem dc_AR_copyOf3_14 : decode cd_AR_copyOf3 14 = .ok (.invokevirtual 90, 3) := by decide +kernel
theorem dc_AR_copyOf3_17 : decode cd_AR_copyOf3 17 = .ok (.iload_n 1, 1) := by decide +kernel
theorem dc_AR_copyOf3_18 : decode cd_AR_copyOf3 18 = .ok (.invokestatic 95, 3) := by decide +kernel
theorem dc_AR_copyOf3_21 : decode cd_AR_copyOf3 21 = .ok (.checkcast 110, 3) := by decide +kernel
theorem dc_AR_copyOf3_24 : decode cd_AR_copyOf3 24 = .ok (.astore_n 3, 1) := by decide +kernel
theorem dc_AR_copyOf3_25 : decode cd_AR_copyOf3 25 = .ok (.aload_n 0, 1) := by decide +kernel
theorem dc_AR_copyOf3_26 : decode cd_AR_copyOf3 26 = .ok (.iconst 0, 1) := by decide +kernel
theorem dc_AR_copyOf3_27 : decode cd_AR_copyOf3 27 = .ok (.aload_n 3, 1) := by decide +kernel
theorem dc_AR_copyOf3_28 : decode cd_AR_copyOf3 28 = .ok (.iconst 0, 1) := by decide +kernel
theorem dc_AR_copyOf3_29 : decode cd_AR_copyOf3 29 = .ok (.aload_n 0, 1) := by decide +kernel
theorem dc_AR_copyOf3_30 : decode cd_AR_copyOf3 30 = .ok (.arraylength, 1) := by decide +kernel
theorem dc_AR_copyOf3_31 : decode cd_AR_copyOf3 31 = .ok (.iload_n 1, 1) := by decide +kernel
theorem dc_AR_copyOf3_32 : decode cd_AR_copyOf3 32 = .ok (.invokestatic 304, 3) := by decide +kernel
theorem dc_AR_copyOf3_35 : decode cd_AR_copyOf3 35 = .ok (.invokestatic 150, 3) := by decide +kernel
theorem dc_AR_copyOf3_38 : decode cd_AR_copyOf3 38 = .ok (.aload_n 3, 1) := by decide +kernel
theorem dc_AR_copyOf3_39 : decode cd_AR_copyOf3 39 = .ok (.areturn, 1) := by decide +kernel
theorem dc_MA_min_0 : decode cd_MA_min 0 = .ok (.iload_n 0, 1) := by decide +kernel
theorem dc_MA_min_1 : decode cd_MA_min 1 = .ok (.iload_n 1, 1) := by decide +kernel
theorem dc_MA_min_2 : decode cd_MA_min 2 = .ok (.if_icmp .gt 7, 3) := by decide +kernel
theorem dc_MA_min_5 : decode cd_MA_min 5 = .ok (.iload_n 0, 1) := by decide +kernel
theorem dc_MA_min_6 : decode cd_MA_min 6 = .ok (.goto 4, 3) := by decide +kernel
theorem dc_MA_min_9 : decode cd_MA_min 9 = .ok (.iload_n 1, 1) := by decide +kernel
theorem dc_MA_min_10 : decode cd_MA_min 10 = .ok (.ireturn, 1) := by decide +kernel
theorem dc_TH_setRoot_0 : decode cd_TH_setRoot 0 = .ok (.aload_n 0, 1) := by decide +kernel
theorem dc_TH_setRoot_1 : decode cd_TH_setRoot 1 = .ok (.getfield 11, 3) := by decide +kernel
theorem dc_TH_setRoot_4 : decode cd_TH_setRoot 4 = .ok (.iload_n 1, 1) := by decide +kernel
theorem dc_TH_setRoot_5 : decode cd_TH_setRoot 5 = .ok (.aaload, 1) := by decide +kernel
theorem dc_TH_setRoot_6 : decode cd_TH_setRoot 6 = .ok (.astore_n 3, 1) := by decide +kernel
theorem dc_TH_setRoot_7 : decode cd_TH_setRoot 7 = .ok (.aload_n 2, 1) := by decide +kernel
theorem dc_TH_setRoot_8 : decode cd_TH_setRoot 8 = .ok (.invokestatic 78, 3) := by decide +kernel
theorem dc_TH_setRoot_11 : decode cd_TH_setRoot 11 = .ok (.aload_n 0, 1) := by decide +kernel
theorem dc_TH_setRoot_12 : decode cd_TH_setRoot 12 = .ok (.getfield 11, 3) := by decide +kernel
