theorem dc_TH_setRoot_15 : decode cd_TH_setRoot 15 = .ok (.iload_n 1, 1) := by decide +kernel
theorem dc_TH_setRoot_16 : decode cd_TH_setRoot 16 = .ok (.aload_n 2, 1) := by decide +kernel
theorem dc_TH_setRoot_17 : decode cd_TH_setRoot 17 = .ok (.aastore, 1) := by decide +kernel
theorem dc_TH_setRoot_18 : decode cd_TH_setRoot 18 = .ok (.aload_n 0, 1) := by decide +kernel
theorem dc_TH_setRoot_19 : decode cd_TH_setRoot 19 = .ok (.aload_n 3, 1) := by decide +kernel
theorem dc_TH_setRoot_20 : decode cd_TH_setRoot 20 = .ok (.invokevirtual 89, 3) := by decide +kernel
theorem dc_TH_setRoot_23 : decode cd_TH_setRoot 23 = .ok (.return_, 1) := by decide +kernel
theorem dc_TH_hold_0 : decode cd_TH_hold 0 = .ok (.aload_n 0, 1) := by decide +kernel
theorem dc_TH_hold_1 : decode cd_TH_hold 1 = .ok (.ifnull 13, 3) := by decide +kernel
theorem dc_TH_hold_4 : decode cd_TH_hold 4 = .ok (.aload_n 0, 1) := by decide +kernel
theorem dc_TH_hold_5 : decode cd_TH_hold 5 = .ok (.dup, 1) := by decide +kernel
theorem dc_TH_hold_6 : decode cd_TH_hold 6 = .ok (.getfield 102, 3) := by decide +kernel
theorem dc_TH_hold_9 : decode cd_TH_hold 9 = .ok (.iconst 1, 1) := by decide +kernel
theorem dc_TH_hold_10 : decode cd_TH_hold 10 = .ok (.iadd, 1) := by decide +kernel
theorem dc_TH_hold_11 : decode cd_TH_hold 11 = .ok (.putfield 102, 3) := by decide +kernel
theorem dc_TH_hold_14 : decode cd_TH_hold 14 = .ok (.return_, 1) := by decide +kernel
theorem dc_TH_release_0 : decode cd_TH_release 0 = .ok (.aload_n 0, 1) := by decide +kernel
theorem dc_TH_release_1 : decode cd_TH_release 1 = .ok (.aload_n 1, 1) := by decide +kernel
theorem dc_TH_release_2 : decode cd_TH_release 2 = .ok (.invokevirtual 118, 3) := by decide +kernel
theorem dc_TH_release_5 : decode cd_TH_release 5 = .ok (.aload_n 0, 1) := by decide +kernel
theorem dc_TH_release_6 : decode cd_TH_release 6 = .ok (.invokevirtual 115, 3) := by decide +kernel
theorem dc_TH_release_9 : decode cd_TH_release 9 = .ok (.return_, 1) := by decide +kernel
theorem dc_TH_loseHold_0 : decode cd_TH_loseHold 0 = .ok (.aload_n 1, 1) := by decide +kernel
theorem dc_TH_loseHold_1 : decode cd_TH_loseHold 1 = .ok (.ifnonnull 4, 3) := by decide +kernel
theorem dc_TH_loseHold_4 : decode cd_TH_loseHold 4 = .ok (.return_, 1) := by decide +kernel
theorem dc_TH_loseHold_5 : decode cd_TH_loseHold 5 = .ok (.aload_n 1, 1) := by decide +kernel
theorem dc_TH_loseHold_6 : decode cd_TH_loseHold 6 = .ok (.dup, 1) := by decide +kernel
theorem dc_TH_loseHold_7 : decode cd_TH_loseHold 7 = .ok (.getfield 102, 3) := by decide +kernel
theorem dc_TH_loseHold_10 : decode cd_TH_loseHold 10 = .ok (.iconst 1, 1) := by decide +kernel
theorem dc_TH_loseHold_11 : decode cd_TH_loseHold 11 = .ok (.isub, 1) := by decide +kernel
theorem dc_TH_loseHold_12 : decode cd_TH_loseHold 12 = .ok (.putfield 102, 3) := by decide +kernel
theorem dc_TH_loseHold_15 : decode cd_TH_loseHold 15 = .ok (.aload_n 1, 1) := by decide +kernel
theorem dc_TH_loseHold_16 : decode cd_TH_loseHold 16 = .ok (.getfield 102, 3) := by decide +kernel
theorem dc_TH_loseHold_19 : decode cd_TH_loseHold 19 = .ok (.ifCond .ne 12, 3) := by decide +kernel
theorem dc_TH_loseHold_22 : decode cd_TH_loseHold 22 = .ok (.aload_n 0, 1) := by decide +kernel
theorem dc_TH_loseHold_23 : decode cd_TH_loseHold 23 = .ok (.getfield 22, 3) := by decide +kernel
theorem dc_TH_loseHold_26 : decode cd_TH_loseHold 26 = .ok (.aload_n 1, 1) := by decide +kernel
theorem dc_TH_loseHold_27 : decode cd_TH_loseHold 27 = .ok (.invokevirtual 43, 3) := by decide +kernel
theorem dc_TH_loseHold_30 : decode cd_TH_loseHold 30 = .ok (.pop, 1) := by decide +kernel
theorem dc_TH_loseHold_31 : decode cd_TH_loseHold 31 = .ok (.return_, 1) := by decide +kernel
theorem dc_TH_removeUnheld_0 : decode cd_TH_removeUnheld 0 = .ok (.aload_n 0, 1) := by decide +kernel
theorem dc_TH_removeUnheld_1 : decode cd_TH_removeUnheld 1 = .ok (.getfield 18, 3) := by decide +kernel
theorem dc_TH_removeUnheld_4 : decode cd_TH_removeUnheld 4 = .ok (.invokevirtual 36, 3) := by decide +kernel
theorem dc_TH_removeUnheld_7 : decode cd_TH_removeUnheld 7 = .ok (.istore_n 1, 1) := by decide +kernel
theorem dc_TH_removeUnheld_8 : decode cd_TH_removeUnheld 8 = .ok (.iconst 0, 1) := by decide +kernel
theorem dc_TH_removeUnheld_9 : decode cd_TH_removeUnheld 9 = .ok (.istore_n 2, 1) := by decide +kernel
theorem dc_TH_removeUnheld_10 : decode cd_TH_removeUnheld 10 = .ok (.iload_n 2, 1) := by decide +kernel
theorem dc_TH_removeUnheld_11 : decode cd_TH_removeUnheld 11 = .ok (.aload_n 0, 1) := by decide +kernel
theorem dc_TH_removeUnheld_12 : decode cd_TH_removeUnheld 12 = .ok (.getfield 22, 3) := by decide +kernel
theorem dc_TH_removeUnheld_15 : decode cd_TH_removeUnheld 15 = .ok (.invokevirtual 36, 3) := by decide +kernel
theorem dc_TH_removeUnheld_18 : decode cd_TH_removeUnheld 18 = .ok (.if_icmp .ge 29, 3) := by decide +kernel
theorem dc_TH_removeUnheld_21 : decode cd_TH_removeUnheld 21 = .ok (.iload_n 2, 1) := by decide +kernel
theorem dc_TH_removeUnheld_22 : decode cd_TH_removeUnheld 22 = .ok (.iload_n 1, 1) := by decide +kernel
theorem dc_TH_removeUnheld_23 : decode cd_TH_removeUnheld 23 = .ok (.if_icmp .ge 24, 3) := by decide +kernel
theorem dc_TH_removeUnheld_26 : decode cd_TH_removeUnheld 26 = .ok (.aload_n 0, 1) := by decide +kernel
theorem dc_TH_removeUnheld_27 : decode cd_TH_removeUnheld 27 = .ok (.aload_n 0, 1) := by decide +kernel
theorem dc_TH_removeUnheld_28 : decode cd_TH_removeUnheld 28 = .ok (.getfield 22, 3) := by decide +kernel
theorem dc_TH_removeUnheld_31 : decode cd_TH_removeUnheld 31 = .ok (.iload_n 2, 1) := by decide +kernel
theorem dc_TH_removeUnheld_32 : decode cd_TH_removeUnheld 32 = .ok (.invokevirtual 68, 3) := by decide +kernel
theorem dc_TH_removeUnheld_35 : decode cd_TH_removeUnheld 35 = .ok (.checkcast 9, 3) := by decide +kernel
theorem dc_TH_removeUnheld_38 : decode cd_TH_removeUnheld 38 = .ok (.invokevirtual 112, 3) := by decide +kernel
theorem dc_TH_removeUnheld_41 : decode cd_TH_removeUnheld 41 = .ok (.iinc 2 1, 3) := by decide +kernel
theorem dc_TH_removeUnheld_44 : decode cd_TH_removeUnheld 44 = .ok (.goto (-34), 3) := by decide +kernel
theorem dc_TH_removeUnheld_47 : decode cd_TH_removeUnheld 47 = .ok (.aload_n 0, 1) := by decide +kernel
theorem dc_TH_removeUnheld_48 : decode cd_TH_removeUnheld 48 = .ok (.getfield 22, 3) := by decide +kernel
theorem dc_TH_removeUnheld_51 : decode cd_TH_removeUnheld 51 = .ok (.invokevirtual 124, 3) := by decide +kernel
theorem dc_TH_removeUnheld_54 : decode cd_TH_removeUnheld 54 = .ok (.ifCond .ne 14, 3) := by decide +kernel
theorem dc_TH_removeUnheld_57 : decode cd_TH_removeUnheld 57 = .ok (.aload_n 0, 1) := by decide +kernel
theorem dc_TH_removeUnheld_58 : decode cd_TH_removeUnheld 58 = .ok (.invokevirtual 128, 3) := by decide +kernel
theorem dc_TH_removeUnheld_61 : decode cd_TH_removeUnheld 61 = .ok (.aload_n 0, 1) := by decide +kernel
theorem dc_TH_removeUnheld_62 : decode cd_TH_removeUnheld 62 = .ok (.getfield 22, 3) := by decide +kernel
theorem dc_TH_removeUnheld_65 : decode cd_TH_removeUnheld 65 = .ok (.invokevirtual 121, 3) := by decide +kernel
theorem dc_TH_removeUnheld_68 : decode cd_TH_removeUnheld 68 = .ok (.return_, 1) := by decide +kernel
theorem dc_AL_get_0 : decode cd_AL_get 0 = .ok (.iload_n 1, 1) := by decide +kernel
theorem dc_AL_get_1 : decode cd_AL_get 1 = .ok (.aload_n 0, 1) := by decide +kernel
theorem dc_AL_get_2 : decode cd_AL_get 2 = .ok (.getfield 48, 3) := by decide +kernel
theorem dc_AL_get_5 : decode cd_AL_get 5 = .ok (.invokestatic 118, 3) := by decide +kernel
theorem dc_AL_get_8 : decode cd_AL_get 8 = .ok (.pop, 1) := by decide +kernel
theorem dc_AL_get_9 : decode cd_AL_get 9 = .ok (.aload_n 0, 1) := by decide +kernel
theorem dc_AL_get_10 : decode cd_AL_get 10 = .ok (.iload_n 1, 1) := by decide +kernel
theorem dc_AL_get_11 : decode cd_AL_get 11 = .ok (.invokevirtual 123, 3) := by decide +kernel
theorem dc_AL_get_14 : decode cd_AL_get 14 = .ok (.areturn, 1) := by decide +kernel
theorem dc_OB_checkIndex_0 : decode cd_OB_checkIndex 0 = .ok (.iload_n 0, 1) := by decide +kernel
theorem dc_OB_checkIndex_1 : decode cd_OB_checkIndex 1 = .ok (.iload_n 1, 1) := by decide +kernel
theorem dc_OB_checkIndex_2 : decode cd_OB_checkIndex 2 = .ok (.aconst_null, 1) := by decide +kernel
theorem dc_OB_checkIndex_3 : decode cd_OB_checkIndex 3 = .ok (.invokestatic 105, 3) := by decide +kernel
theorem dc_OB_checkIndex_6 : decode cd_OB_checkIndex 6 = .ok (.ireturn, 1) := by decide +kernel
theorem dc_PR_checkIndex_0 : decode cd_PR_checkIndex 0 = .ok (.iload_n 0, 1) := by decide +kernel
theorem dc_PR_checkIndex_1 : decode cd_PR_checkIndex 1 = .ok (.ifCond .lt 8, 3) := by decide +kernel
theorem dc_PR_checkIndex_4 : decode cd_PR_checkIndex 4 = .ok (.iload_n 0, 1) := by decide +kernel
theorem dc_PR_checkIndex_5 : decode cd_PR_checkIndex 5 = .ok (.iload_n 1, 1) := by decide +kernel
theorem dc_PR_checkIndex_6 : decode cd_PR_checkIndex 6 = .ok (.if_icmp .lt 10, 3) := by decide +kernel
theorem dc_PR_checkIndex_9 : decode cd_PR_checkIndex 9 = .ok (.aload_n 2, 1) := by decide +kernel
theorem dc_PR_checkIndex_10 : decode cd_PR_checkIndex 10 = .ok (.iload_n 0, 1) := by decide +kernel
theorem dc_PR_checkIndex_11 : decode cd_PR_checkIndex 11 = .ok (.iload_n 1, 1) := by decide +kernel
theorem dc_PR_checkIndex_12 : decode cd_PR_checkIndex 12 = .ok (.invokestatic 95, 3) := by decide +kernel
theorem dc_PR_checkIndex_15 : decode cd_PR_checkIndex 15 = .ok (.athrow, 1) := by decide +kernel
theorem dc_PR_checkIndex_16 : decode cd_PR_checkIndex 16 = .ok (.iload_n 0, 1) := by decide +kernel
theorem dc_PR_checkIndex_17 : decode cd_PR_checkIndex 17 = .ok (.ireturn, 1) := by decide +kernel
theorem dc_AL_elementData_0 : decode cd_AL_elementData 0 = .ok (.aload_n 0, 1) := by decide +kernel
theorem dc_AL_elementData_1 : decode cd_AL_elementData 1 = .ok (.getfield 9, 3) := by decide +kernel
theorem dc_AL_elementData_4 : decode cd_AL_elementData 4 = .ok (.iload_n 1, 1) := by decide +kernel
theorem dc_AL_elementData_5 : decode cd_AL_elementData 5 = .ok (.aaload, 1) := by decide +kernel
theorem dc_AL_elementData_6 : decode cd_AL_elementData 6 = .ok (.areturn, 1) := by decide +kernel
theorem dc_TH_dropItems_0 : decode cd_TH_dropItems 0 = .ok (.iconst 0, 1) := by decide +kernel
theorem dc_TH_dropItems_1 : decode cd_TH_dropItems 1 = .ok (.istore_n 2, 1) := by decide +kernel
theorem dc_TH_dropItems_2 : decode cd_TH_dropItems 2 = .ok (.iload_n 2, 1) := by decide +kernel
theorem dc_TH_dropItems_3 : decode cd_TH_dropItems 3 = .ok (.aload_n 1, 1) := by decide +kernel
theorem dc_TH_dropItems_4 : decode cd_TH_dropItems 4 = .ok (.getfield 65, 3) := by decide +kernel
theorem dc_TH_dropItems_7 : decode cd_TH_dropItems 7 = .ok (.invokevirtual 36, 3) := by decide +kernel
theorem dc_TH_dropItems_10 : decode cd_TH_dropItems 10 = .ok (.if_icmp .ge 27, 3) := by decide +kernel
theorem dc_TH_dropItems_13 : decode cd_TH_dropItems 13 = .ok (.aload_n 0, 1) := by decide +kernel
theorem dc_TH_dropItems_14 : decode cd_TH_dropItems 14 = .ok (.aload_n 1, 1) := by decide +kernel
theorem dc_TH_dropItems_15 : decode cd_TH_dropItems 15 = .ok (.getfield 65, 3) := by decide +kernel
theorem dc_TH_dropItems_18 : decode cd_TH_dropItems 18 = .ok (.iload_n 2, 1) := by decide +kernel
theorem dc_TH_dropItems_19 : decode cd_TH_dropItems 19 = .ok (.invokevirtual 68, 3) := by decide +kernel
theorem dc_TH_dropItems_22 : decode cd_TH_dropItems 22 = .ok (.checkcast 72, 3) := by decide +kernel
theorem dc_TH_dropItems_25 : decode cd_TH_dropItems 25 = .ok (.getfield 74, 3) := by decide +kernel
theorem dc_TH_dropItems_28 : decode cd_TH_dropItems 28 = .ok (.invokevirtual 118, 3) := by decide +kernel
theorem dc_TH_dropItems_31 : decode cd_TH_dropItems 31 = .ok (.iinc 2 1, 3) := by decide +kernel
theorem dc_TH_dropItems_34 : decode cd_TH_dropItems 34 = .ok (.goto (-32), 3) := by decide +kernel
theorem dc_TH_dropItems_37 : decode cd_TH_dropItems 37 = .ok (.aload_n 1, 1) := by decide +kernel
theorem dc_TH_dropItems_38 : decode cd_TH_dropItems 38 = .ok (.getfield 65, 3) := by decide +kernel
theorem dc_TH_dropItems_41 : decode cd_TH_dropItems 41 = .ok (.invokevirtual 121, 3) := by decide +kernel
theorem dc_TH_dropItems_44 : decode cd_TH_dropItems 44 = .ok (.return_, 1) := by decide +kernel
theorem dc_AL_clear_0 : decode cd_AL_clear 0 = .ok (.aload_n 0, 1) := by decide +kernel
theorem dc_AL_clear_1 : decode cd_AL_clear 1 = .ok (.dup, 1) := by decide +kernel
theorem dc_AL_clear_2 : decode cd_AL_clear 2 = .ok (.getfield 63, 3) := by decide +kernel
theorem dc_AL_clear_5 : decode cd_AL_clear 5 = .ok (.iconst 1, 1) := by decide +kernel
theorem dc_AL_clear_6 : decode cd_AL_clear 6 = .ok (.iadd, 1) := by decide +kernel
theorem dc_AL_clear_7 : decode cd_AL_clear 7 = .ok (.putfield 63, 3) := by decide +kernel
theorem dc_AL_clear_10 : decode cd_AL_clear 10 = .ok (.aload_n 0, 1) := by decide +kernel
theorem dc_AL_clear_11 : decode cd_AL_clear 11 = .ok (.getfield 9, 3) := by decide +kernel
theorem dc_AL_clear_14 : decode cd_AL_clear 14 = .ok (.astore_n 1, 1) := by decide +kernel
theorem dc_AL_clear_15 : decode cd_AL_clear 15 = .ok (.aload_n 0, 1) := by decide +kernel
theorem dc_AL_clear_16 : decode cd_AL_clear 16 = .ok (.getfield 48, 3) := by decide +kernel
theorem dc_AL_clear_19 : decode cd_AL_clear 19 = .ok (.istore_n 2, 1) := by decide +kernel
theorem dc_AL_clear_20 : decode cd_AL_clear 20 = .ok (.aload_n 0, 1) := by decide +kernel
theorem dc_AL_clear_21 : decode cd_AL_clear 21 = .ok (.iconst 0, 1) := by decide +kernel
theorem dc_AL_clear_22 : decode cd_AL_clear 22 = .ok (.dup_x1, 1) := by decide +kernel
theorem dc_AL_clear_23 : decode cd_AL_clear 23 = .ok (.putfield 48, 3) := by decide +kernel
theorem dc_AL_clear_26 : decode cd_AL_clear 26 = .ok (.istore_n 3, 1) := by decide +kernel
theorem dc_AL_clear_27 : decode cd_AL_clear 27 = .ok (.iload_n 3, 1) := by decide +kernel
theorem dc_AL_clear_28 : decode cd_AL_clear 28 = .ok (.iload_n 2, 1) := by decide +kernel
theorem dc_AL_clear_29 : decode cd_AL_clear 29 = .ok (.if_icmp .ge 13, 3) := by decide +kernel
theorem dc_AL_clear_32 : decode cd_AL_clear 32 = .ok (.aload_n 1, 1) := by decide +kernel
theorem dc_AL_clear_33 : decode cd_AL_clear 33 = .ok (.iload_n 3, 1) := by decide +kernel
theorem dc_AL_clear_34 : decode cd_AL_clear 34 = .ok (.aconst_null, 1) := by decide +kernel
theorem dc_AL_clear_35 : decode cd_AL_clear 35 = .ok (.aastore, 1) := by decide +kernel
theorem dc_AL_clear_36 : decode cd_AL_clear 36 = .ok (.iinc 3 1, 3) := by decide +kernel
theorem dc_AL_clear_39 : decode cd_AL_clear 39 = .ok (.goto (-12), 3) := by decide +kernel
theorem dc_AL_clear_42 : decode cd_AL_clear 42 = .ok (.return_, 1) := by decide +kernel
theorem dc_AL_isEmpty_0 : decode cd_AL_isEmpty 0 = .ok (.aload_n 0, 1) := by decide +kernel
theorem dc_AL_isEmpty_1 : decode cd_AL_isEmpty 1 = .ok (.getfield 48, 3) := by decide +kernel
theorem dc_AL_isEmpty_4 : decode cd_AL_isEmpty 4 = .ok (.ifCond .ne 7, 3) := by decide +kernel
theorem dc_AL_isEmpty_7 : decode cd_AL_isEmpty 7 = .ok (.iconst 1, 1) := by decide +kernel
theorem dc_AL_isEmpty_8 : decode cd_AL_isEmpty 8 = .ok (.goto 4, 3) := by decide +kernel
theorem dc_AL_isEmpty_11 : decode cd_AL_isEmpty 11 = .ok (.iconst 0, 1) := by decide +kernel
theorem dc_AL_isEmpty_12 : decode cd_AL_isEmpty 12 = .ok (.ireturn, 1) := by decide +kernel
theorem dc_TH_keepHeld_0 : decode cd_TH_keepHeld 0 = .ok (.aload_n 0, 1) := by decide +kernel
theorem dc_TH_keepHeld_1 : decode cd_TH_keepHeld 1 = .ok (.getfield 18, 3) := by decide +kernel
theorem dc_TH_keepHeld_4 : decode cd_TH_keepHeld 4 = .ok (.invokevirtual 36, 3) := by decide +kernel
theorem dc_TH_keepHeld_7 : decode cd_TH_keepHeld 7 = .ok (.istore_n 1, 1) := by decide +kernel
theorem dc_TH_keepHeld_8 : decode cd_TH_keepHeld 8 = .ok (.iconst 0, 1) := by decide +kernel
theorem dc_TH_keepHeld_9 : decode cd_TH_keepHeld 9 = .ok (.istore_n 2, 1) := by decide +kernel
theorem dc_TH_keepHeld_10 : decode cd_TH_keepHeld 10 = .ok (.iconst 0, 1) := by decide +kernel
theorem dc_TH_keepHeld_11 : decode cd_TH_keepHeld 11 = .ok (.istore_n 3, 1) := by decide +kernel
theorem dc_TH_keepHeld_12 : decode cd_TH_keepHeld 12 = .ok (.iload_n 3, 1) := by decide +kernel
theorem dc_TH_keepHeld_13 : decode cd_TH_keepHeld 13 = .ok (.iload_n 1, 1) := by decide +kernel
theorem dc_TH_keepHeld_14 : decode cd_TH_keepHeld 14 = .ok (.if_icmp .ge 44, 3) := by decide +kernel
theorem dc_TH_keepHeld_17 : decode cd_TH_keepHeld 17 = .ok (.aload_n 0, 1) := by decide +kernel
theorem dc_TH_keepHeld_18 : decode cd_TH_keepHeld 18 = .ok (.getfield 18, 3) := by decide +kernel
theorem dc_TH_keepHeld_21 : decode cd_TH_keepHeld 21 = .ok (.iload_n 3, 1) := by decide +kernel
theorem dc_TH_keepHeld_22 : decode cd_TH_keepHeld 22 = .ok (.invokevirtual 68, 3) := by decide +kernel
theorem dc_TH_keepHeld_25 : decode cd_TH_keepHeld 25 = .ok (.checkcast 9, 3) := by decide +kernel
theorem dc_TH_keepHeld_28 : decode cd_TH_keepHeld 28 = .ok (.astore 4, 2) := by decide +kernel
theorem dc_TH_keepHeld_30 : decode cd_TH_keepHeld 30 = .ok (.aload 4, 2) := by decide +kernel
theorem dc_TH_keepHeld_32 : decode cd_TH_keepHeld 32 = .ok (.getfield 102, 3) := by decide +kernel
theorem dc_TH_keepHeld_35 : decode cd_TH_keepHeld 35 = .ok (.ifCond .le 17, 3) := by decide +kernel
theorem dc_TH_keepHeld_38 : decode cd_TH_keepHeld 38 = .ok (.aload_n 0, 1) := by decide +kernel
theorem dc_TH_keepHeld_39 : decode cd_TH_keepHeld 39 = .ok (.getfield 18, 3) := by decide +kernel
theorem dc_TH_keepHeld_42 : decode cd_TH_keepHeld 42 = .ok (.iload_n 2, 1) := by decide +kernel
theorem dc_TH_keepHeld_43 : decode cd_TH_keepHeld 43 = .ok (.aload 4, 2) := by decide +kernel
theorem dc_TH_keepHeld_45 : decode cd_TH_keepHeld 45 = .ok (.invokevirtual 85, 3) := by decide +kernel
theorem dc_TH_keepHeld_48 : decode cd_TH_keepHeld 48 = .ok (.pop, 1) := by decide +kernel
theorem dc_TH_keepHeld_49 : decode cd_TH_keepHeld 49 = .ok (.iinc 2 1, 3) := by decide +kernel
theorem dc_TH_keepHeld_52 : decode cd_TH_keepHeld 52 = .ok (.iinc 3 1, 3) := by decide +kernel
theorem dc_TH_keepHeld_55 : decode cd_TH_keepHeld 55 = .ok (.goto (-43), 3) := by decide +kernel
theorem dc_TH_keepHeld_58 : decode cd_TH_keepHeld 58 = .ok (.iload_n 1, 1) := by decide +kernel
theorem dc_TH_keepHeld_59 : decode cd_TH_keepHeld 59 = .ok (.iconst 1, 1) := by decide +kernel
theorem dc_TH_keepHeld_60 : decode cd_TH_keepHeld 60 = .ok (.isub, 1) := by decide +kernel
theorem dc_TH_keepHeld_61 : decode cd_TH_keepHeld 61 = .ok (.istore_n 3, 1) := by decide +kernel
theorem dc_TH_keepHeld_62 : decode cd_TH_keepHeld 62 = .ok (.iload_n 3, 1) := by decide +kernel
theorem dc_TH_keepHeld_63 : decode cd_TH_keepHeld 63 = .ok (.iload_n 2, 1) := by decide +kernel
theorem dc_TH_keepHeld_64 : decode cd_TH_keepHeld 64 = .ok (.if_icmp .lt 18, 3) := by decide +kernel
theorem dc_TH_keepHeld_67 : decode cd_TH_keepHeld 67 = .ok (.aload_n 0, 1) := by decide +kernel
theorem dc_TH_keepHeld_68 : decode cd_TH_keepHeld 68 = .ok (.getfield 18, 3) := by decide +kernel
theorem dc_TH_keepHeld_71 : decode cd_TH_keepHeld 71 = .ok (.iload_n 3, 1) := by decide +kernel
theorem dc_TH_keepHeld_72 : decode cd_TH_keepHeld 72 = .ok (.invokevirtual 92, 3) := by decide +kernel
theorem dc_TH_keepHeld_75 : decode cd_TH_keepHeld 75 = .ok (.pop, 1) := by decide +kernel
theorem dc_TH_keepHeld_76 : decode cd_TH_keepHeld 76 = .ok (.iinc 3 (-1), 3) := by decide +kernel
theorem dc_TH_keepHeld_79 : decode cd_TH_keepHeld 79 = .ok (.goto (-17), 3) := by decide +kernel
theorem dc_TH_keepHeld_82 : decode cd_TH_keepHeld 82 = .ok (.return_, 1) := by decide +kernel
theorem dc_AL_set_0 : decode cd_AL_set 0 = .ok (.iload_n 1, 1) := by decide +kernel
theorem dc_AL_set_1 : decode cd_AL_set 1 = .ok (.aload_n 0, 1) := by decide +kernel
theorem dc_AL_set_2 : decode cd_AL_set 2 = .ok (.getfield 48, 3) := by decide +kernel
theorem dc_AL_set_5 : decode cd_AL_set 5 = .ok (.invokestatic 118, 3) := by decide +kernel
theorem dc_AL_set_8 : decode cd_AL_set 8 = .ok (.pop, 1) := by decide +kernel
theorem dc_AL_set_9 : decode cd_AL_set 9 = .ok (.aload_n 0, 1) := by decide +kernel
theorem dc_AL_set_10 : decode cd_AL_set 10 = .ok (.iload_n 1, 1) := by decide +kernel
theorem dc_AL_set_11 : decode cd_AL_set 11 = .ok (.invokevirtual 123, 3) := by decide +kernel
theorem dc_AL_set_14 : decode cd_AL_set 14 = .ok (.astore_n 3, 1) := by decide +kernel
theorem dc_AL_set_15 : decode cd_AL_set 15 = .ok (.aload_n 0, 1) := by decide +kernel
theorem dc_AL_set_16 : decode cd_AL_set 16 = .ok (.getfield 9, 3) := by decide +kernel
theorem dc_AL_set_19 : decode cd_AL_set 19 = .ok (.iload_n 1, 1) := by decide +kernel
theorem dc_AL_set_20 : decode cd_AL_set 20 = .ok (.aload_n 2, 1) := by decide +kernel
theorem dc_AL_set_21 : decode cd_AL_set 21 = .ok (.aastore, 1) := by decide +kernel
theorem dc_AL_set_22 : decode cd_AL_set 22 = .ok (.aload_n 3, 1) := by decide +kernel
theorem dc_AL_set_23 : decode cd_AL_set 23 = .ok (.areturn, 1) := by decide +kernel
theorem dc_AL_remove_0 : decode cd_AL_remove 0 = .ok (.iload_n 1, 1) := by decide +kernel
theorem dc_AL_remove_1 : decode cd_AL_remove 1 = .ok (.aload_n 0, 1) := by decide +kernel
theorem dc_AL_remove_2 : decode cd_AL_remove 2 = .ok (.getfield 48, 3) := by decide +kernel
theorem dc_AL_remove_5 : decode cd_AL_remove 5 = .ok (.invokestatic 118, 3) := by decide +kernel
theorem dc_AL_remove_8 : decode cd_AL_remove 8 = .ok (.pop, 1) := by decide +kernel
theorem dc_AL_remove_9 : decode cd_AL_remove 9 = .ok (.aload_n 0, 1) := by decide +kernel
theorem dc_AL_remove_10 : decode cd_AL_remove 10 = .ok (.getfield 9, 3) := by decide +kernel
theorem dc_AL_remove_13 : decode cd_AL_remove 13 = .ok (.astore_n 2, 1) := by decide +kernel
theorem dc_AL_remove_14 : decode cd_AL_remove 14 = .ok (.aload_n 2, 1) := by decide +kernel
theorem dc_AL_remove_15 : decode cd_AL_remove 15 = .ok (.iload_n 1, 1) := by decide +kernel
theorem dc_AL_remove_16 : decode cd_AL_remove 16 = .ok (.aaload, 1) := by decide +kernel
theorem dc_AL_remove_17 : decode cd_AL_remove 17 = .ok (.astore_n 3, 1) := by decide +kernel
theorem dc_AL_remove_18 : decode cd_AL_remove 18 = .ok (.aload_n 0, 1) := by decide +kernel
theorem dc_AL_remove_19 : decode cd_AL_remove 19 = .ok (.aload_n 2, 1) := by decide +kernel
theorem dc_AL_remove_20 : decode cd_AL_remove 20 = .ok (.iload_n 1, 1) := by decide +kernel
theorem dc_AL_remove_21 : decode cd_AL_remove 21 = .ok (.invokevirtual 144, 3) := by decide +kernel
theorem dc_AL_remove_24 : decode cd_AL_remove 24 = .ok (.aload_n 3, 1) := by decide +kernel
theorem dc_AL_remove_25 : decode cd_AL_remove 25 = .ok (.areturn, 1) := by decide +kernel
theorem dc_AL_fastRemove_0 : decode cd_AL_fastRemove 0 = .ok (.aload_n 0, 1) := by decide +kernel
theorem dc_AL_fastRemove_1 : decode cd_AL_fastRemove 1 = .ok (.dup, 1) := by decide +kernel
theorem dc_AL_fastRemove_2 : decode cd_AL_fastRemove 2 = .ok (.getfield 63, 3) := by decide +kernel
theorem dc_AL_fastRemove_5 : decode cd_AL_fastRemove 5 = .ok (.iconst 1, 1) := by decide +kernel
theorem dc_AL_fastRemove_6 : decode cd_AL_fastRemove 6 = .ok (.iadd, 1) := by decide +kernel
theorem dc_AL_fastRemove_7 : decode cd_AL_fastRemove 7 = .ok (.putfield 63, 3) := by decide +kernel
theorem dc_AL_fastRemove_10 : decode cd_AL_fastRemove 10 = .ok (.aload_n 0, 1) := by decide +kernel
theorem dc_AL_fastRemove_11 : decode cd_AL_fastRemove 11 = .ok (.getfield 48, 3) := by decide +kernel
theorem dc_AL_fastRemove_14 : decode cd_AL_fastRemove 14 = .ok (.iconst 1, 1) := by decide +kernel
theorem dc_AL_fastRemove_15 : decode cd_AL_fastRemove 15 = .ok (.isub, 1) := by decide +kernel
theorem dc_AL_fastRemove_16 : decode cd_AL_fastRemove 16 = .ok (.dup, 1) := by decide +kernel
theorem dc_AL_fastRemove_17 : decode cd_AL_fastRemove 17 = .ok (.istore_n 3, 1) := by decide +kernel
theorem dc_AL_fastRemove_18 : decode cd_AL_fastRemove 18 = .ok (.iload_n 2, 1) := by decide +kernel
theorem dc_AL_fastRemove_19 : decode cd_AL_fastRemove 19 = .ok (.if_icmp .le 15, 3) := by decide +kernel
theorem dc_AL_fastRemove_22 : decode cd_AL_fastRemove 22 = .ok (.aload_n 1, 1) := by decide +kernel
theorem dc_AL_fastRemove_23 : decode cd_AL_fastRemove 23 = .ok (.iload_n 2, 1) := by decide +kernel
theorem dc_AL_fastRemove_24 : decode cd_AL_fastRemove 24 = .ok (.iconst 1, 1) := by decide +kernel
theorem dc_AL_fastRemove_25 : decode cd_AL_fastRemove 25 = .ok (.iadd, 1) := by decide +kernel
theorem dc_AL_fastRemove_26 : decode cd_AL_fastRemove 26 = .ok (.aload_n 1, 1) := by decide +kernel
theorem dc_AL_fastRemove_27 : decode cd_AL_fastRemove 27 = .ok (.iload_n 2, 1) := by decide +kernel
theorem dc_AL_fastRemove_28 : decode cd_AL_fastRemove 28 = .ok (.iload_n 3, 1) := by decide +kernel
theorem dc_AL_fastRemove_29 : decode cd_AL_fastRemove 29 = .ok (.iload_n 2, 1) := by decide +kernel
theorem dc_AL_fastRemove_30 : decode cd_AL_fastRemove 30 = .ok (.isub, 1) := by decide +kernel
theorem dc_AL_fastRemove_31 : decode cd_AL_fastRemove 31 = .ok (.invokestatic 112, 3) := by decide +kernel
theorem dc_AL_fastRemove_34 : decode cd_AL_fastRemove 34 = .ok (.aload_n 1, 1) := by decide +kernel
theorem dc_AL_fastRemove_35 : decode cd_AL_fastRemove 35 = .ok (.aload_n 0, 1) := by decide +kernel
theorem dc_AL_fastRemove_36 : decode cd_AL_fastRemove 36 = .ok (.iload_n 3, 1) := by decide +kernel
theorem dc_AL_fastRemove_37 : decode cd_AL_fastRemove 37 = .ok (.dup_x1, 1) := by decide +kernel
theorem dc_AL_fastRemove_38 : decode cd_AL_fastRemove 38 = .ok (.putfield 48, 3) := by decide +kernel
theorem dc_AL_fastRemove_41 : decode cd_AL_fastRemove 41 = .ok (.aconst_null, 1) := by decide +kernel
theorem dc_AL_fastRemove_42 : decode cd_AL_fastRemove 42 = .ok (.aastore, 1) := by decide +kernel
theorem dc_AL_fastRemove_43 : decode cd_AL_fastRemove 43 = .ok (.return_, 1) := by decide +kernel
theorem dc_TH_root_0 : decode cd_TH_root 0 = .ok (.iload_n 1, 1) := by decide +kernel
theorem dc_TH_root_1 : decode cd_TH_root 1 = .ok (.invokestatic 32, 3) := by decide +kernel
theorem dc_TH_root_4 : decode cd_TH_root 4 = .ok (.ifCond .ne 5, 3) := by decide +kernel
theorem dc_TH_root_7 : decode cd_TH_root 7 = .ok (.iconst (-1), 1) := by decide +kernel
theorem dc_TH_root_8 : decode cd_TH_root 8 = .ok (.ireturn, 1) := by decide +kernel
theorem dc_TH_root_9 : decode cd_TH_root 9 = .ok (.aload_n 0, 1) := by decide +kernel
theorem dc_TH_root_10 : decode cd_TH_root 10 = .ok (.iload_n 2, 1) := by decide +kernel
theorem dc_TH_root_11 : decode cd_TH_root 11 = .ok (.invokevirtual 54, 3) := by decide +kernel
theorem dc_TH_root_14 : decode cd_TH_root 14 = .ok (.astore_n 3, 1) := by decide +kernel
theorem dc_TH_root_15 : decode cd_TH_root 15 = .ok (.aload_n 3, 1) := by decide +kernel
theorem dc_TH_root_16 : decode cd_TH_root 16 = .ok (.ifnonnull 11, 3) := by decide +kernel
