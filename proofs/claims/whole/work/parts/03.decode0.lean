theorem dX0_init_0 : decode cX0_init 0 = .ok (.aload_n 0, 1) := by decide +kernel
theorem dX0_init_1 : decode cX0_init 1 = .ok (.invokespecial 3, 3) := by decide +kernel
theorem dX0_init_4 : decode cX0_init 4 = .ok (.aload_n 0, 1) := by decide +kernel
theorem dX0_init_5 : decode cX0_init 5 = .ok (.aload_n 1, 1) := by decide +kernel
theorem dX0_init_6 : decode cX0_init 6 = .ok (.putfield 9, 3) := by decide +kernel
theorem dX0_init_9 : decode cX0_init 9 = .ok (.aload_n 0, 1) := by decide +kernel
theorem dX0_init_10 : decode cX0_init 10 = .ok (.iload_n 2, 1) := by decide +kernel
theorem dX0_init_11 : decode cX0_init 11 = .ok (.putfield 15, 3) := by decide +kernel
theorem dX0_init_14 : decode cX0_init 14 = .ok (.aload_n 0, 1) := by decide +kernel
theorem dX0_init_15 : decode cX0_init 15 = .ok (.iload_n 3, 1) := by decide +kernel
theorem dX0_init_16 : decode cX0_init 16 = .ok (.putfield 19, 3) := by decide +kernel
theorem dX0_init_19 : decode cX0_init 19 = .ok (.aload_n 0, 1) := by decide +kernel
theorem dX0_init_20 : decode cX0_init 20 = .ok (.iconst 0, 1) := by decide +kernel
theorem dX0_init_21 : decode cX0_init 21 = .ok (.putfield 22, 3) := by decide +kernel
theorem dX0_init_24 : decode cX0_init 24 = .ok (.aload_n 0, 1) := by decide +kernel
theorem dX0_init_25 : decode cX0_init 25 = .ok (.iconst (-1), 1) := by decide +kernel
theorem dX0_init_26 : decode cX0_init 26 = .ok (.putfield 25, 3) := by decide +kernel
theorem dX0_init_29 : decode cX0_init 29 = .ok (.aload_n 0, 1) := by decide +kernel
theorem dX0_init_30 : decode cX0_init 30 = .ok (.iconst 0, 1) := by decide +kernel
theorem dX0_init_31 : decode cX0_init 31 = .ok (.putfield 28, 3) := by decide +kernel
theorem dX0_init_34 : decode cX0_init 34 = .ok (.aload_n 0, 1) := by decide +kernel
theorem dX0_init_35 : decode cX0_init 35 = .ok (.iconst 0, 1) := by decide +kernel
theorem dX0_init_36 : decode cX0_init 36 = .ok (.putfield 31, 3) := by decide +kernel
theorem dX0_init_39 : decode cX0_init 39 = .ok (.aload_n 0, 1) := by decide +kernel
theorem dX0_init_40 : decode cX0_init 40 = .ok (.iconst 0, 1) := by decide +kernel
theorem dX0_init_41 : decode cX0_init 41 = .ok (.putfield 34, 3) := by decide +kernel
theorem dX0_init_44 : decode cX0_init 44 = .ok (.return_, 1) := by decide +kernel
theorem dX0_plan_0 : decode cX0_plan 0 = .ok (.aload_n 0, 1) := by decide +kernel
theorem dX0_plan_1 : decode cX0_plan 1 = .ok (.getfield 22, 3) := by decide +kernel
theorem dX0_plan_4 : decode cX0_plan 4 = .ok (.ifCond .eq 5, 3) := by decide +kernel
theorem dX0_plan_7 : decode cX0_plan 7 = .ok (.iconst 0, 1) := by decide +kernel
theorem dX0_plan_8 : decode cX0_plan 8 = .ok (.ireturn, 1) := by decide +kernel
theorem dX0_plan_9 : decode cX0_plan 9 = .ok (.aload_n 0, 1) := by decide +kernel
theorem dX0_plan_10 : decode cX0_plan 10 = .ok (.iconst 1, 1) := by decide +kernel
theorem dX0_plan_11 : decode cX0_plan 11 = .ok (.putfield 22, 3) := by decide +kernel
theorem dX0_plan_14 : decode cX0_plan 14 = .ok (.aload_n 0, 1) := by decide +kernel
theorem dX0_plan_15 : decode cX0_plan 15 = .ok (.iload_n 1, 1) := by decide +kernel
theorem dX0_plan_16 : decode cX0_plan 16 = .ok (.putfield 25, 3) := by decide +kernel
theorem dX0_plan_19 : decode cX0_plan 19 = .ok (.aload_n 0, 1) := by decide +kernel
theorem dX0_plan_20 : decode cX0_plan 20 = .ok (.iload_n 2, 1) := by decide +kernel
theorem dX0_plan_21 : decode cX0_plan 21 = .ok (.putfield 28, 3) := by decide +kernel
theorem dX0_plan_24 : decode cX0_plan 24 = .ok (.iconst 1, 1) := by decide +kernel
theorem dX0_plan_25 : decode cX0_plan 25 = .ok (.ireturn, 1) := by decide +kernel
theorem dX0_comeHomeIfDue_0 : decode cX0_comeHomeIfDue 0 = .ok (.aload_n 0, 1) := by decide +kernel
theorem dX0_comeHomeIfDue_1 : decode cX0_comeHomeIfDue 1 = .ok (.getfield 22, 3) := by decide +kernel
theorem dX0_comeHomeIfDue_4 : decode cX0_comeHomeIfDue 4 = .ok (.iconst 2, 1) := by decide +kernel
theorem dX0_comeHomeIfDue_5 : decode cX0_comeHomeIfDue 5 = .ok (.if_icmp .ne 15, 3) := by decide +kernel
theorem dX0_comeHomeIfDue_8 : decode cX0_comeHomeIfDue 8 = .ok (.aload_n 0, 1) := by decide +kernel
theorem dX0_comeHomeIfDue_9 : decode cX0_comeHomeIfDue 9 = .ok (.getfield 25, 3) := by decide +kernel
theorem dX0_comeHomeIfDue_12 : decode cX0_comeHomeIfDue 12 = .ok (.iload_n 1, 1) := by decide +kernel
theorem dX0_comeHomeIfDue_13 : decode cX0_comeHomeIfDue 13 = .ok (.if_icmp .gt 7, 3) := by decide +kernel
theorem dX0_comeHomeIfDue_16 : decode cX0_comeHomeIfDue 16 = .ok (.aload_n 0, 1) := by decide +kernel
theorem dX0_comeHomeIfDue_17 : decode cX0_comeHomeIfDue 17 = .ok (.invokevirtual 37, 3) := by decide +kernel
theorem dX0_comeHomeIfDue_20 : decode cX0_comeHomeIfDue 20 = .ok (.return_, 1) := by decide +kernel
theorem dX0_isToSailAt_0 : decode cX0_isToSailAt 0 = .ok (.aload_n 0, 1) := by decide +kernel
theorem dX0_isToSailAt_1 : decode cX0_isToSailAt 1 = .ok (.getfield 22, 3) := by decide +kernel
theorem dX0_isToSailAt_4 : decode cX0_isToSailAt 4 = .ok (.iconst 1, 1) := by decide +kernel
theorem dX0_isToSailAt_5 : decode cX0_isToSailAt 5 = .ok (.if_icmp .ne 15, 3) := by decide +kernel
theorem dX0_isToSailAt_8 : decode cX0_isToSailAt 8 = .ok (.aload_n 0, 1) := by decide +kernel
theorem dX0_isToSailAt_9 : decode cX0_isToSailAt 9 = .ok (.getfield 25, 3) := by decide +kernel
theorem dX0_isToSailAt_12 : decode cX0_isToSailAt 12 = .ok (.iload_n 1, 1) := by decide +kernel
theorem dX0_isToSailAt_13 : decode cX0_isToSailAt 13 = .ok (.if_icmp .ne 7, 3) := by decide +kernel
theorem dX0_isToSailAt_16 : decode cX0_isToSailAt 16 = .ok (.iconst 1, 1) := by decide +kernel
theorem dX0_isToSailAt_17 : decode cX0_isToSailAt 17 = .ok (.goto 4, 3) := by decide +kernel
theorem dX0_isToSailAt_20 : decode cX0_isToSailAt 20 = .ok (.iconst 0, 1) := by decide +kernel
theorem dX0_isToSailAt_21 : decode cX0_isToSailAt 21 = .ok (.ireturn, 1) := by decide +kernel
theorem dX0_sailOrStay_0 : decode cX0_sailOrStay 0 = .ok (.aload_n 0, 1) := by decide +kernel
theorem dX0_sailOrStay_1 : decode cX0_sailOrStay 1 = .ok (.iload_n 1, 1) := by decide +kernel
theorem dX0_sailOrStay_2 : decode cX0_sailOrStay 2 = .ok (.invokevirtual 40, 3) := by decide +kernel
theorem dX0_sailOrStay_5 : decode cX0_sailOrStay 5 = .ok (.ifCond .eq 20, 3) := by decide +kernel
theorem dX0_sailOrStay_8 : decode cX0_sailOrStay 8 = .ok (.aload_n 0, 1) := by decide +kernel
theorem dX0_sailOrStay_9 : decode cX0_sailOrStay 9 = .ok (.dup, 1) := by decide +kernel
theorem dX0_sailOrStay_10 : decode cX0_sailOrStay 10 = .ok (.getfield 34, 3) := by decide +kernel
theorem dX0_sailOrStay_13 : decode cX0_sailOrStay 13 = .ok (.iconst 1, 1) := by decide +kernel
theorem dX0_sailOrStay_14 : decode cX0_sailOrStay 14 = .ok (.iadd, 1) := by decide +kernel
theorem dX0_sailOrStay_15 : decode cX0_sailOrStay 15 = .ok (.putfield 34, 3) := by decide +kernel
theorem dX0_sailOrStay_18 : decode cX0_sailOrStay 18 = .ok (.aload_n 0, 1) := by decide +kernel
theorem dX0_sailOrStay_19 : decode cX0_sailOrStay 19 = .ok (.invokevirtual 37, 3) := by decide +kernel
theorem dX0_sailOrStay_22 : decode cX0_sailOrStay 22 = .ok (.goto 31, 3) := by decide +kernel
theorem dX0_sailOrStay_25 : decode cX0_sailOrStay 25 = .ok (.aload_n 0, 1) := by decide +kernel
theorem dX0_sailOrStay_26 : decode cX0_sailOrStay 26 = .ok (.dup, 1) := by decide +kernel
theorem dX0_sailOrStay_27 : decode cX0_sailOrStay 27 = .ok (.getfield 31, 3) := by decide +kernel
theorem dX0_sailOrStay_30 : decode cX0_sailOrStay 30 = .ok (.iconst 1, 1) := by decide +kernel
theorem dX0_sailOrStay_31 : decode cX0_sailOrStay 31 = .ok (.iadd, 1) := by decide +kernel
theorem dX0_sailOrStay_32 : decode cX0_sailOrStay 32 = .ok (.putfield 31, 3) := by decide +kernel
theorem dX0_sailOrStay_35 : decode cX0_sailOrStay 35 = .ok (.aload_n 0, 1) := by decide +kernel
theorem dX0_sailOrStay_36 : decode cX0_sailOrStay 36 = .ok (.iconst 2, 1) := by decide +kernel
theorem dX0_sailOrStay_37 : decode cX0_sailOrStay 37 = .ok (.putfield 22, 3) := by decide +kernel
theorem dX0_sailOrStay_40 : decode cX0_sailOrStay 40 = .ok (.aload_n 0, 1) := by decide +kernel
theorem dX0_sailOrStay_41 : decode cX0_sailOrStay 41 = .ok (.dup, 1) := by decide +kernel
theorem dX0_sailOrStay_42 : decode cX0_sailOrStay 42 = .ok (.getfield 25, 3) := by decide +kernel
theorem dX0_sailOrStay_45 : decode cX0_sailOrStay 45 = .ok (.aload_n 0, 1) := by decide +kernel
theorem dX0_sailOrStay_46 : decode cX0_sailOrStay 46 = .ok (.getfield 28, 3) := by decide +kernel
theorem dX0_sailOrStay_49 : decode cX0_sailOrStay 49 = .ok (.iadd, 1) := by decide +kernel
theorem dX0_sailOrStay_50 : decode cX0_sailOrStay 50 = .ok (.putfield 25, 3) := by decide +kernel
theorem dX0_sailOrStay_53 : decode cX0_sailOrStay 53 = .ok (.return_, 1) := by decide +kernel
theorem dX0_goDown_0 : decode cX0_goDown 0 = .ok (.aload_n 0, 1) := by decide +kernel
theorem dX0_goDown_1 : decode cX0_goDown 1 = .ok (.iconst 3, 1) := by decide +kernel
theorem dX0_goDown_2 : decode cX0_goDown 2 = .ok (.putfield 22, 3) := by decide +kernel
theorem dX0_goDown_5 : decode cX0_goDown 5 = .ok (.aload_n 0, 1) := by decide +kernel
theorem dX0_goDown_6 : decode cX0_goDown 6 = .ok (.iload_n 1, 1) := by decide +kernel
theorem dX0_goDown_7 : decode cX0_goDown 7 = .ok (.putfield 25, 3) := by decide +kernel
theorem dX0_goDown_10 : decode cX0_goDown 10 = .ok (.return_, 1) := by decide +kernel
theorem dX0_fears_0 : decode cX0_fears 0 = .ok (.iload_n 1, 1) := by decide +kernel
theorem dX0_fears_1 : decode cX0_fears 1 = .ok (.iconst 2, 1) := by decide +kernel
theorem dX0_fears_2 : decode cX0_fears 2 = .ok (.iand, 1) := by decide +kernel
theorem dX0_fears_3 : decode cX0_fears 3 = .ok (.ifCond .eq 7, 3) := by decide +kernel
theorem dX0_fears_6 : decode cX0_fears 6 = .ok (.iconst 1, 1) := by decide +kernel
theorem dX0_fears_7 : decode cX0_fears 7 = .ok (.goto 4, 3) := by decide +kernel
theorem dX0_fears_10 : decode cX0_fears 10 = .ok (.iconst 0, 1) := by decide +kernel
theorem dX0_fears_11 : decode cX0_fears 11 = .ok (.istore_n 2, 1) := by decide +kernel
theorem dX0_fears_12 : decode cX0_fears 12 = .ok (.iload_n 1, 1) := by decide +kernel
theorem dX0_fears_13 : decode cX0_fears 13 = .ok (.iconst 1, 1) := by decide +kernel
theorem dX0_fears_14 : decode cX0_fears 14 = .ok (.iand, 1) := by decide +kernel
theorem dX0_fears_15 : decode cX0_fears 15 = .ok (.ifCond .eq 7, 3) := by decide +kernel
theorem dX0_fears_18 : decode cX0_fears 18 = .ok (.iconst 1, 1) := by decide +kernel
theorem dX0_fears_19 : decode cX0_fears 19 = .ok (.goto 4, 3) := by decide +kernel
theorem dX0_fears_22 : decode cX0_fears 22 = .ok (.iconst 0, 1) := by decide +kernel
theorem dX0_fears_23 : decode cX0_fears 23 = .ok (.istore_n 3, 1) := by decide +kernel
theorem dX0_fears_24 : decode cX0_fears 24 = .ok (.iload_n 2, 1) := by decide +kernel
theorem dX0_fears_25 : decode cX0_fears 25 = .ok (.ifCond .eq 11, 3) := by decide +kernel
theorem dX0_fears_28 : decode cX0_fears 28 = .ok (.aload_n 0, 1) := by decide +kernel
theorem dX0_fears_29 : decode cX0_fears 29 = .ok (.getfield 15, 3) := by decide +kernel
theorem dX0_fears_32 : decode cX0_fears 32 = .ok (.iconst 1, 1) := by decide +kernel
theorem dX0_fears_33 : decode cX0_fears 33 = .ok (.if_icmp .le 14, 3) := by decide +kernel
theorem dX0_fears_36 : decode cX0_fears 36 = .ok (.iload_n 3, 1) := by decide +kernel
theorem dX0_fears_37 : decode cX0_fears 37 = .ok (.ifCond .eq 14, 3) := by decide +kernel
theorem dX0_fears_40 : decode cX0_fears 40 = .ok (.aload_n 0, 1) := by decide +kernel
theorem dX0_fears_41 : decode cX0_fears 41 = .ok (.getfield 15, 3) := by decide +kernel
theorem dX0_fears_44 : decode cX0_fears 44 = .ok (.ifCond .ne 7, 3) := by decide +kernel
theorem dX0_fears_47 : decode cX0_fears 47 = .ok (.iconst 1, 1) := by decide +kernel
theorem dX0_fears_48 : decode cX0_fears 48 = .ok (.goto 4, 3) := by decide +kernel
theorem dX0_fears_51 : decode cX0_fears 51 = .ok (.iconst 0, 1) := by decide +kernel
theorem dX0_fears_52 : decode cX0_fears 52 = .ok (.ireturn, 1) := by decide +kernel
theorem dX0_restAtHome_0 : decode cX0_restAtHome 0 = .ok (.aload_n 0, 1) := by decide +kernel
theorem dX0_restAtHome_1 : decode cX0_restAtHome 1 = .ok (.iconst 0, 1) := by decide +kernel
theorem dX0_restAtHome_2 : decode cX0_restAtHome 2 = .ok (.putfield 22, 3) := by decide +kernel
theorem dX0_restAtHome_5 : decode cX0_restAtHome 5 = .ok (.aload_n 0, 1) := by decide +kernel
theorem dX0_restAtHome_6 : decode cX0_restAtHome 6 = .ok (.iconst (-1), 1) := by decide +kernel
theorem dX0_restAtHome_7 : decode cX0_restAtHome 7 = .ok (.putfield 25, 3) := by decide +kernel
theorem dX0_restAtHome_10 : decode cX0_restAtHome 10 = .ok (.return_, 1) := by decide +kernel
theorem dX1_init_0 : decode cX1_init 0 = .ok (.aload_n 0, 1) := by decide +kernel
theorem dX1_init_1 : decode cX1_init 1 = .ok (.invokespecial 1, 3) := by decide +kernel
theorem dX1_init_4 : decode cX1_init 4 = .ok (.aload_n 0, 1) := by decide +kernel
theorem dX1_init_5 : decode cX1_init 5 = .ok (.iload_n 1, 1) := by decide +kernel
theorem dX1_init_6 : decode cX1_init 6 = .ok (.putfield 7, 3) := by decide +kernel
theorem dX1_init_9 : decode cX1_init 9 = .ok (.aload_n 0, 1) := by decide +kernel
theorem dX1_init_10 : decode cX1_init 10 = .ok (.iload_n 2, 1) := by decide +kernel
theorem dX1_init_11 : decode cX1_init 11 = .ok (.putfield 13, 3) := by decide +kernel
theorem dX1_init_14 : decode cX1_init 14 = .ok (.aload_n 0, 1) := by decide +kernel
theorem dX1_init_15 : decode cX1_init 15 = .ok (.iload_n 3, 1) := by decide +kernel
theorem dX1_init_16 : decode cX1_init 16 = .ok (.putfield 16, 3) := by decide +kernel
theorem dX1_init_19 : decode cX1_init 19 = .ok (.aload_n 0, 1) := by decide +kernel
theorem dX1_init_20 : decode cX1_init 20 = .ok (.iload 4, 2) := by decide +kernel
theorem dX1_init_22 : decode cX1_init 22 = .ok (.putfield 19, 3) := by decide +kernel
theorem dX1_init_25 : decode cX1_init 25 = .ok (.return_, 1) := by decide +kernel
theorem dX1_blows_0 : decode cX1_blows 0 = .ok (.aload_n 0, 1) := by decide +kernel
theorem dX1_blows_1 : decode cX1_blows 1 = .ok (.getfield 7, 3) := by decide +kernel
theorem dX1_blows_4 : decode cX1_blows 4 = .ok (.aload_n 1, 1) := by decide +kernel
theorem dX1_blows_5 : decode cX1_blows 5 = .ok (.getfield 22, 3) := by decide +kernel
theorem dX1_blows_8 : decode cX1_blows 8 = .ok (.if_icmp .ne 23, 3) := by decide +kernel
theorem dX1_blows_11 : decode cX1_blows 11 = .ok (.aload_n 0, 1) := by decide +kernel
theorem dX1_blows_12 : decode cX1_blows 12 = .ok (.getfield 13, 3) := by decide +kernel
theorem dX1_blows_15 : decode cX1_blows 15 = .ok (.iload_n 3, 1) := by decide +kernel
theorem dX1_blows_16 : decode cX1_blows 16 = .ok (.if_icmp .gt 15, 3) := by decide +kernel
theorem dX1_blows_19 : decode cX1_blows 19 = .ok (.aload_n 0, 1) := by decide +kernel
theorem dX1_blows_20 : decode cX1_blows 20 = .ok (.getfield 16, 3) := by decide +kernel
theorem dX1_blows_23 : decode cX1_blows 23 = .ok (.iload_n 2, 1) := by decide +kernel
theorem dX1_blows_24 : decode cX1_blows 24 = .ok (.if_icmp .lt 7, 3) := by decide +kernel
theorem dX1_blows_27 : decode cX1_blows 27 = .ok (.iconst 1, 1) := by decide +kernel
theorem dX1_blows_28 : decode cX1_blows 28 = .ok (.goto 4, 3) := by decide +kernel
theorem dX1_blows_31 : decode cX1_blows 31 = .ok (.iconst 0, 1) := by decide +kernel
theorem dX1_blows_32 : decode cX1_blows 32 = .ok (.ireturn, 1) := by decide +kernel
theorem dX2_init_0 : decode cX2_init 0 = .ok (.aload_n 0, 1) := by decide +kernel
theorem dX2_init_1 : decode cX2_init 1 = .ok (.invokespecial 3, 3) := by decide +kernel
theorem dX2_init_4 : decode cX2_init 4 = .ok (.aload_n 0, 1) := by decide +kernel
theorem dX2_init_5 : decode cX2_init 5 = .ok (.iconst (-1), 1) := by decide +kernel
theorem dX2_init_6 : decode cX2_init 6 = .ok (.putfield 9, 3) := by decide +kernel
theorem dX2_init_9 : decode cX2_init 9 = .ok (.aload_n 0, 1) := by decide +kernel
theorem dX2_init_10 : decode cX2_init 10 = .ok (.iconst (-1), 1) := by decide +kernel
theorem dX2_init_11 : decode cX2_init 11 = .ok (.putfield 15, 3) := by decide +kernel
theorem dX2_init_14 : decode cX2_init 14 = .ok (.aload_n 0, 1) := by decide +kernel
theorem dX2_init_15 : decode cX2_init 15 = .ok (.iconst (-1), 1) := by decide +kernel
theorem dX2_init_16 : decode cX2_init 16 = .ok (.putfield 18, 3) := by decide +kernel
theorem dX2_init_19 : decode cX2_init 19 = .ok (.aload_n 0, 1) := by decide +kernel
theorem dX2_init_20 : decode cX2_init 20 = .ok (.iconst (-1), 1) := by decide +kernel
theorem dX2_init_21 : decode cX2_init 21 = .ok (.putfield 21, 3) := by decide +kernel
theorem dX2_init_24 : decode cX2_init 24 = .ok (.return_, 1) := by decide +kernel
theorem dX2_signOf_0 : decode cX2_signOf 0 = .ok (.iload_n 0, 1) := by decide +kernel
theorem dX2_signOf_1 : decode cX2_signOf 1 = .ok (.lookupswitch 33 #[(1, 27), (3, 30)], 27) := by decide +kernel
theorem dX2_signOf_28 : decode cX2_signOf 28 = .ok (.bipush 60, 2) := by decide +kernel
theorem dX2_signOf_30 : decode cX2_signOf 30 = .ok (.ireturn, 1) := by decide +kernel
theorem dX2_signOf_31 : decode cX2_signOf 31 = .ok (.bipush 61, 2) := by decide +kernel
theorem dX2_signOf_33 : decode cX2_signOf 33 = .ok (.ireturn, 1) := by decide +kernel
theorem dX2_signOf_34 : decode cX2_signOf 34 = .ok (.bipush 62, 2) := by decide +kernel
theorem dX2_signOf_36 : decode cX2_signOf 36 = .ok (.ireturn, 1) := by decide +kernel
theorem dX2_meets_0 : decode cX2_meets 0 = .ok (.iload_n 1, 1) := by decide +kernel
theorem dX2_meets_1 : decode cX2_meets 1 = .ok (.tableswitch 116 0 3 #[31, 66, 88, 102], 31) := by decide +kernel
theorem dX2_meets_32 : decode cX2_meets 32 = .ok (.aload_n 0, 1) := by decide +kernel
theorem dX2_meets_33 : decode cX2_meets 33 = .ok (.getfield 15, 3) := by decide +kernel
theorem dX2_meets_36 : decode cX2_meets 36 = .ok (.iconst (-1), 1) := by decide +kernel
theorem dX2_meets_37 : decode cX2_meets 37 = .ok (.if_icmp .eq 28, 3) := by decide +kernel
theorem dX2_meets_40 : decode cX2_meets 40 = .ok (.aload_n 0, 1) := by decide +kernel
theorem dX2_meets_41 : decode cX2_meets 41 = .ok (.getfield 18, 3) := by decide +kernel
theorem dX2_meets_44 : decode cX2_meets 44 = .ok (.iconst (-1), 1) := by decide +kernel
theorem dX2_meets_45 : decode cX2_meets 45 = .ok (.if_icmp .eq 20, 3) := by decide +kernel
theorem dX2_meets_48 : decode cX2_meets 48 = .ok (.aload_n 0, 1) := by decide +kernel
theorem dX2_meets_49 : decode cX2_meets 49 = .ok (.getfield 15, 3) := by decide +kernel
theorem dX2_meets_52 : decode cX2_meets 52 = .ok (.aload_n 0, 1) := by decide +kernel
theorem dX2_meets_53 : decode cX2_meets 53 = .ok (.getfield 18, 3) := by decide +kernel
theorem dX2_meets_56 : decode cX2_meets 56 = .ok (.isub, 1) := by decide +kernel
theorem dX2_meets_57 : decode cX2_meets 57 = .ok (.iload_n 2, 1) := by decide +kernel
theorem dX2_meets_58 : decode cX2_meets 58 = .ok (.if_icmp .le 7, 3) := by decide +kernel
theorem dX2_meets_61 : decode cX2_meets 61 = .ok (.iconst 1, 1) := by decide +kernel
theorem dX2_meets_62 : decode cX2_meets 62 = .ok (.goto 4, 3) := by decide +kernel
theorem dX2_meets_65 : decode cX2_meets 65 = .ok (.iconst 0, 1) := by decide +kernel
theorem dX2_meets_66 : decode cX2_meets 66 = .ok (.ireturn, 1) := by decide +kernel
theorem dX2_meets_67 : decode cX2_meets 67 = .ok (.aload_n 0, 1) := by decide +kernel
theorem dX2_meets_68 : decode cX2_meets 68 = .ok (.getfield 18, 3) := by decide +kernel
theorem dX2_meets_71 : decode cX2_meets 71 = .ok (.iconst (-1), 1) := by decide +kernel
theorem dX2_meets_72 : decode cX2_meets 72 = .ok (.if_icmp .eq 15, 3) := by decide +kernel
theorem dX2_meets_75 : decode cX2_meets 75 = .ok (.aload_n 0, 1) := by decide +kernel
theorem dX2_meets_76 : decode cX2_meets 76 = .ok (.getfield 18, 3) := by decide +kernel
theorem dX2_meets_79 : decode cX2_meets 79 = .ok (.iload_n 2, 1) := by decide +kernel
theorem dX2_meets_80 : decode cX2_meets 80 = .ok (.if_icmp .ge 7, 3) := by decide +kernel
theorem dX2_meets_83 : decode cX2_meets 83 = .ok (.iconst 1, 1) := by decide +kernel
theorem dX2_meets_84 : decode cX2_meets 84 = .ok (.goto 4, 3) := by decide +kernel
theorem dX2_meets_87 : decode cX2_meets 87 = .ok (.iconst 0, 1) := by decide +kernel
theorem dX2_meets_88 : decode cX2_meets 88 = .ok (.ireturn, 1) := by decide +kernel
theorem dX2_meets_89 : decode cX2_meets 89 = .ok (.aload_n 0, 1) := by decide +kernel
theorem dX2_meets_90 : decode cX2_meets 90 = .ok (.getfield 21, 3) := by decide +kernel
theorem dX2_meets_93 : decode cX2_meets 93 = .ok (.iload_n 2, 1) := by decide +kernel
theorem dX2_meets_94 : decode cX2_meets 94 = .ok (.if_icmp .le 7, 3) := by decide +kernel
theorem dX2_meets_97 : decode cX2_meets 97 = .ok (.iconst 1, 1) := by decide +kernel
theorem dX2_meets_98 : decode cX2_meets 98 = .ok (.goto 4, 3) := by decide +kernel
theorem dX2_meets_101 : decode cX2_meets 101 = .ok (.iconst 0, 1) := by decide +kernel
theorem dX2_meets_102 : decode cX2_meets 102 = .ok (.ireturn, 1) := by decide +kernel
theorem dX2_meets_103 : decode cX2_meets 103 = .ok (.aload_n 0, 1) := by decide +kernel
theorem dX2_meets_104 : decode cX2_meets 104 = .ok (.getfield 9, 3) := by decide +kernel
theorem dX2_meets_107 : decode cX2_meets 107 = .ok (.iload_n 2, 1) := by decide +kernel
theorem dX2_meets_108 : decode cX2_meets 108 = .ok (.if_icmp .ne 7, 3) := by decide +kernel
theorem dX2_meets_111 : decode cX2_meets 111 = .ok (.iconst 1, 1) := by decide +kernel
theorem dX2_meets_112 : decode cX2_meets 112 = .ok (.goto 4, 3) := by decide +kernel
theorem dX2_meets_115 : decode cX2_meets 115 = .ok (.iconst 0, 1) := by decide +kernel
theorem dX2_meets_116 : decode cX2_meets 116 = .ok (.ireturn, 1) := by decide +kernel
theorem dX2_meets_117 : decode cX2_meets 117 = .ok (.iconst 0, 1) := by decide +kernel
theorem dX2_meets_118 : decode cX2_meets 118 = .ok (.ireturn, 1) := by decide +kernel
theorem dX3_init_0 : decode cX3_init 0 = .ok (.aload_n 0, 1) := by decide +kernel
theorem dX3_init_1 : decode cX3_init 1 = .ok (.invokespecial 3, 3) := by decide +kernel
theorem dX3_init_4 : decode cX3_init 4 = .ok (.aload_n 0, 1) := by decide +kernel
theorem dX3_init_5 : decode cX3_init 5 = .ok (.iload_n 1, 1) := by decide +kernel
theorem dX3_init_6 : decode cX3_init 6 = .ok (.putfield 9, 3) := by decide +kernel
theorem dX3_init_9 : decode cX3_init 9 = .ok (.aload_n 0, 1) := by decide +kernel
theorem dX3_init_10 : decode cX3_init 10 = .ok (.iload_n 2, 1) := by decide +kernel
theorem dX3_init_11 : decode cX3_init 11 = .ok (.putfield 15, 3) := by decide +kernel
theorem dX3_init_14 : decode cX3_init 14 = .ok (.aload_n 0, 1) := by decide +kernel
theorem dX3_init_15 : decode cX3_init 15 = .ok (.iload_n 3, 1) := by decide +kernel
theorem dX3_init_16 : decode cX3_init 16 = .ok (.putfield 18, 3) := by decide +kernel
theorem dX3_init_19 : decode cX3_init 19 = .ok (.aload_n 0, 1) := by decide +kernel
theorem dX3_init_20 : decode cX3_init 20 = .ok (.iload 4, 2) := by decide +kernel
theorem dX3_init_22 : decode cX3_init 22 = .ok (.putfield 21, 3) := by decide +kernel
theorem dX3_init_25 : decode cX3_init 25 = .ok (.aload_n 0, 1) := by decide +kernel
theorem dX3_init_26 : decode cX3_init 26 = .ok (.iload 5, 2) := by decide +kernel
theorem dX3_init_28 : decode cX3_init 28 = .ok (.putfield 24, 3) := by decide +kernel
theorem dX3_init_31 : decode cX3_init 31 = .ok (.aload_n 0, 1) := by decide +kernel
theorem dX3_init_32 : decode cX3_init 32 = .ok (.aconst_null, 1) := by decide +kernel
theorem dX3_init_33 : decode cX3_init 33 = .ok (.putfield 27, 3) := by decide +kernel
theorem dX3_init_36 : decode cX3_init 36 = .ok (.return_, 1) := by decide +kernel
theorem dX3_countingReport_0 : decode cX3_countingReport 0 = .ok (.aload_n 0, 1) := by decide +kernel
theorem dX3_countingReport_1 : decode cX3_countingReport 1 = .ok (.getfield 27, 3) := by decide +kernel
theorem dX3_countingReport_4 : decode cX3_countingReport 4 = .ok (.astore_n 3, 1) := by decide +kernel
theorem dX3_countingReport_5 : decode cX3_countingReport 5 = .ok (.aload_n 3, 1) := by decide +kernel
theorem dX3_countingReport_6 : decode cX3_countingReport 6 = .ok (.ifnull 29, 3) := by decide +kernel
theorem dX3_countingReport_9 : decode cX3_countingReport 9 = .ok (.aload_n 3, 1) := by decide +kernel
theorem dX3_countingReport_10 : decode cX3_countingReport 10 = .ok (.getfield 31, 3) := by decide +kernel
theorem dX3_countingReport_13 : decode cX3_countingReport 13 = .ok (.iload_n 1, 1) := by decide +kernel
theorem dX3_countingReport_14 : decode cX3_countingReport 14 = .ok (.if_icmp .ne 13, 3) := by decide +kernel
theorem dX3_countingReport_17 : decode cX3_countingReport 17 = .ok (.aload_n 3, 1) := by decide +kernel
theorem dX3_countingReport_18 : decode cX3_countingReport 18 = .ok (.getfield 36, 3) := by decide +kernel
theorem dX3_countingReport_21 : decode cX3_countingReport 21 = .ok (.iload_n 2, 1) := by decide +kernel
theorem dX3_countingReport_22 : decode cX3_countingReport 22 = .ok (.if_icmp .gt 5, 3) := by decide +kernel
theorem dX3_countingReport_25 : decode cX3_countingReport 25 = .ok (.aload_n 3, 1) := by decide +kernel
theorem dX3_countingReport_26 : decode cX3_countingReport 26 = .ok (.areturn, 1) := by decide +kernel
theorem dX3_countingReport_27 : decode cX3_countingReport 27 = .ok (.aload_n 3, 1) := by decide +kernel
theorem dX3_countingReport_28 : decode cX3_countingReport 28 = .ok (.getfield 39, 3) := by decide +kernel
theorem dX3_countingReport_31 : decode cX3_countingReport 31 = .ok (.astore_n 3, 1) := by decide +kernel
theorem dX3_countingReport_32 : decode cX3_countingReport 32 = .ok (.goto (-27), 3) := by decide +kernel
theorem dX3_countingReport_35 : decode cX3_countingReport 35 = .ok (.aconst_null, 1) := by decide +kernel
theorem dX3_countingReport_36 : decode cX3_countingReport 36 = .ok (.areturn, 1) := by decide +kernel
theorem dX3_windKnown_0 : decode cX3_windKnown 0 = .ok (.aload_n 0, 1) := by decide +kernel
theorem dX3_windKnown_1 : decode cX3_windKnown 1 = .ok (.iload_n 1, 1) := by decide +kernel
theorem dX3_windKnown_2 : decode cX3_windKnown 2 = .ok (.iload_n 2, 1) := by decide +kernel
theorem dX3_windKnown_3 : decode cX3_windKnown 3 = .ok (.invokevirtual 42, 3) := by decide +kernel
theorem dX3_windKnown_6 : decode cX3_windKnown 6 = .ok (.astore_n 3, 1) := by decide +kernel
theorem dX3_windKnown_7 : decode cX3_windKnown 7 = .ok (.aload_n 3, 1) := by decide +kernel
theorem dX3_windKnown_8 : decode cX3_windKnown 8 = .ok (.ifnonnull 7, 3) := by decide +kernel
theorem dX3_windKnown_11 : decode cX3_windKnown 11 = .ok (.iconst (-1), 1) := by decide +kernel
theorem dX3_windKnown_12 : decode cX3_windKnown 12 = .ok (.goto 7, 3) := by decide +kernel
theorem dX3_windKnown_15 : decode cX3_windKnown 15 = .ok (.aload_n 3, 1) := by decide +kernel
theorem dX3_windKnown_16 : decode cX3_windKnown 16 = .ok (.getfield 46, 3) := by decide +kernel
theorem dX3_windKnown_19 : decode cX3_windKnown 19 = .ok (.ireturn, 1) := by decide +kernel
theorem dX3_weightAt_0 : decode cX3_weightAt 0 = .ok (.iconst 1, 1) := by decide +kernel
theorem dX3_weightAt_1 : decode cX3_weightAt 1 = .ok (.aload_n 0, 1) := by decide +kernel
theorem dX3_weightAt_2 : decode cX3_weightAt 2 = .ok (.getfield 15, 3) := by decide +kernel
theorem dX3_weightAt_5 : decode cX3_weightAt 5 = .ok (.iload_n 1, 1) := by decide +kernel
theorem dX3_weightAt_6 : decode cX3_weightAt 6 = .ok (.isub, 1) := by decide +kernel
theorem dX3_weightAt_7 : decode cX3_weightAt 7 = .ok (.aload_n 0, 1) := by decide +kernel
theorem dX3_weightAt_8 : decode cX3_weightAt 8 = .ok (.getfield 15, 3) := by decide +kernel
theorem dX3_weightAt_11 : decode cX3_weightAt 11 = .ok (.iload_n 1, 1) := by decide +kernel
theorem dX3_weightAt_12 : decode cX3_weightAt 12 = .ok (.isub, 1) := by decide +kernel
theorem dX3_weightAt_13 : decode cX3_weightAt 13 = .ok (.imul, 1) := by decide +kernel
theorem dX3_weightAt_14 : decode cX3_weightAt 14 = .ok (.iadd, 1) := by decide +kernel
theorem dX3_weightAt_15 : decode cX3_weightAt 15 = .ok (.aload_n 0, 1) := by decide +kernel
theorem dX3_weightAt_16 : decode cX3_weightAt 16 = .ok (.getfield 18, 3) := by decide +kernel
theorem dX3_weightAt_19 : decode cX3_weightAt 19 = .ok (.iload_n 2, 1) := by decide +kernel
theorem dX3_weightAt_20 : decode cX3_weightAt 20 = .ok (.isub, 1) := by decide +kernel
theorem dX3_weightAt_21 : decode cX3_weightAt 21 = .ok (.aload_n 0, 1) := by decide +kernel
theorem dX3_weightAt_22 : decode cX3_weightAt 22 = .ok (.getfield 18, 3) := by decide +kernel
theorem dX3_weightAt_25 : decode cX3_weightAt 25 = .ok (.iload_n 2, 1) := by decide +kernel
theorem dX3_weightAt_26 : decode cX3_weightAt 26 = .ok (.isub, 1) := by decide +kernel
theorem dX3_weightAt_27 : decode cX3_weightAt 27 = .ok (.imul, 1) := by decide +kernel
theorem dX3_weightAt_28 : decode cX3_weightAt 28 = .ok (.iadd, 1) := by decide +kernel
theorem dX3_weightAt_29 : decode cX3_weightAt 29 = .ok (.istore_n 3, 1) := by decide +kernel
theorem dX3_weightAt_30 : decode cX3_weightAt 30 = .ok (.iload_n 3, 1) := by decide +kernel
theorem dX3_weightAt_31 : decode cX3_weightAt 31 = .ok (.iconst 1, 1) := by decide +kernel
theorem dX3_weightAt_32 : decode cX3_weightAt 32 = .ok (.sipush 1000, 3) := by decide +kernel
theorem dX3_weightAt_35 : decode cX3_weightAt 35 = .ok (.invokestatic 49, 3) := by decide +kernel
theorem dX3_weightAt_38 : decode cX3_weightAt 38 = .ok (.ifCond .eq 11, 3) := by decide +kernel
theorem dX3_weightAt_41 : decode cX3_weightAt 41 = .ok (.sipush 1000, 3) := by decide +kernel
theorem dX3_weightAt_44 : decode cX3_weightAt 44 = .ok (.iload_n 3, 1) := by decide +kernel
theorem dX3_weightAt_45 : decode cX3_weightAt 45 = .ok (.idiv, 1) := by decide +kernel
theorem dX3_weightAt_46 : decode cX3_weightAt 46 = .ok (.goto 4, 3) := by decide +kernel
theorem dX3_weightAt_49 : decode cX3_weightAt 49 = .ok (.iconst 1, 1) := by decide +kernel
theorem dX3_weightAt_50 : decode cX3_weightAt 50 = .ok (.ireturn, 1) := by decide +kernel
theorem dX4_init_0 : decode cX4_init 0 = .ok (.aload_n 0, 1) := by decide +kernel
theorem dX4_init_1 : decode cX4_init 1 = .ok (.invokespecial 1, 3) := by decide +kernel
theorem dX4_init_4 : decode cX4_init 4 = .ok (.aload_n 0, 1) := by decide +kernel
theorem dX4_init_5 : decode cX4_init 5 = .ok (.iload_n 1, 1) := by decide +kernel
theorem dX4_init_6 : decode cX4_init 6 = .ok (.putfield 7, 3) := by decide +kernel
theorem dX4_init_9 : decode cX4_init 9 = .ok (.aload_n 0, 1) := by decide +kernel
theorem dX4_init_10 : decode cX4_init 10 = .ok (.iload_n 2, 1) := by decide +kernel
theorem dX4_init_11 : decode cX4_init 11 = .ok (.putfield 13, 3) := by decide +kernel
theorem dX4_init_14 : decode cX4_init 14 = .ok (.aload_n 0, 1) := by decide +kernel
theorem dX4_init_15 : decode cX4_init 15 = .ok (.iload_n 3, 1) := by decide +kernel
theorem dX4_init_16 : decode cX4_init 16 = .ok (.putfield 16, 3) := by decide +kernel
theorem dX4_init_19 : decode cX4_init 19 = .ok (.aload_n 0, 1) := by decide +kernel
theorem dX4_init_20 : decode cX4_init 20 = .ok (.iload 4, 2) := by decide +kernel
theorem dX4_init_22 : decode cX4_init 22 = .ok (.putfield 19, 3) := by decide +kernel
theorem dX4_init_25 : decode cX4_init 25 = .ok (.aload_n 0, 1) := by decide +kernel
theorem dX4_init_26 : decode cX4_init 26 = .ok (.iload 5, 2) := by decide +kernel
theorem dX4_init_28 : decode cX4_init 28 = .ok (.putfield 22, 3) := by decide +kernel
theorem dX4_init_31 : decode cX4_init 31 = .ok (.aload_n 0, 1) := by decide +kernel
theorem dX4_init_32 : decode cX4_init 32 = .ok (.aload 6, 2) := by decide +kernel
theorem dX4_init_34 : decode cX4_init 34 = .ok (.putfield 25, 3) := by decide +kernel
theorem dX4_init_37 : decode cX4_init 37 = .ok (.return_, 1) := by decide +kernel
theorem dX5_init_0 : decode cX5_init 0 = .ok (.aload_n 0, 1) := by decide +kernel
theorem dX5_init_1 : decode cX5_init 1 = .ok (.invokespecial 3, 3) := by decide +kernel
theorem dX5_init_4 : decode cX5_init 4 = .ok (.aload_n 0, 1) := by decide +kernel
theorem dX5_init_5 : decode cX5_init 5 = .ok (.bipush 8, 2) := by decide +kernel
theorem dX5_init_7 : decode cX5_init 7 = .ok (.newarray .int, 2) := by decide +kernel
theorem dX5_init_9 : decode cX5_init 9 = .ok (.putfield 11, 3) := by decide +kernel
theorem dX5_init_12 : decode cX5_init 12 = .ok (.aload_n 0, 1) := by decide +kernel
theorem dX5_init_13 : decode cX5_init 13 = .ok (.bipush 8, 2) := by decide +kernel
theorem dX5_init_15 : decode cX5_init 15 = .ok (.newarray .int, 2) := by decide +kernel
theorem dX5_init_17 : decode cX5_init 17 = .ok (.putfield 15, 3) := by decide +kernel
theorem dX5_init_20 : decode cX5_init 20 = .ok (.aload_n 0, 1) := by decide +kernel
theorem dX5_init_21 : decode cX5_init 21 = .ok (.bipush 8, 2) := by decide +kernel
theorem dX5_init_23 : decode cX5_init 23 = .ok (.iconst 4, 1) := by decide +kernel
theorem dX5_init_24 : decode cX5_init 24 = .ok (.multianewarray 18 2, 4) := by decide +kernel
theorem dX5_init_28 : decode cX5_init 28 = .ok (.putfield 20, 3) := by decide +kernel
theorem dX5_init_31 : decode cX5_init 31 = .ok (.aload_n 0, 1) := by decide +kernel
theorem dX5_init_32 : decode cX5_init 32 = .ok (.bipush 8, 2) := by decide +kernel
theorem dX5_init_34 : decode cX5_init 34 = .ok (.iconst 4, 1) := by decide +kernel
theorem dX5_init_35 : decode cX5_init 35 = .ok (.multianewarray 18 2, 4) := by decide +kernel
theorem dX5_init_39 : decode cX5_init 39 = .ok (.putfield 23, 3) := by decide +kernel
theorem dX5_init_42 : decode cX5_init 42 = .ok (.aload_n 0, 1) := by decide +kernel
theorem dX5_init_43 : decode cX5_init 43 = .ok (.iconst 0, 1) := by decide +kernel
theorem dX5_init_44 : decode cX5_init 44 = .ok (.putfield 26, 3) := by decide +kernel
theorem dX5_init_47 : decode cX5_init 47 = .ok (.return_, 1) := by decide +kernel
theorem dX5_size_0 : decode cX5_size 0 = .ok (.aload_n 0, 1) := by decide +kernel
theorem dX5_size_1 : decode cX5_size 1 = .ok (.getfield 26, 3) := by decide +kernel
theorem dX5_size_4 : decode cX5_size 4 = .ok (.ireturn, 1) := by decide +kernel
theorem dX5_flagOf_0 : decode cX5_flagOf 0 = .ok (.iload_n 1, 1) := by decide +kernel
theorem dX5_flagOf_1 : decode cX5_flagOf 1 = .ok (.ifCond .lt 20, 3) := by decide +kernel
theorem dX5_flagOf_4 : decode cX5_flagOf 4 = .ok (.iload_n 1, 1) := by decide +kernel
theorem dX5_flagOf_5 : decode cX5_flagOf 5 = .ok (.aload_n 0, 1) := by decide +kernel
theorem dX5_flagOf_6 : decode cX5_flagOf 6 = .ok (.getfield 26, 3) := by decide +kernel
theorem dX5_flagOf_9 : decode cX5_flagOf 9 = .ok (.if_icmp .ge 12, 3) := by decide +kernel
theorem dX5_flagOf_12 : decode cX5_flagOf 12 = .ok (.aload_n 0, 1) := by decide +kernel
theorem dX5_flagOf_13 : decode cX5_flagOf 13 = .ok (.getfield 11, 3) := by decide +kernel
theorem dX5_flagOf_16 : decode cX5_flagOf 16 = .ok (.iload_n 1, 1) := by decide +kernel
theorem dX5_flagOf_17 : decode cX5_flagOf 17 = .ok (.iaload, 1) := by decide +kernel
theorem dX5_flagOf_18 : decode cX5_flagOf 18 = .ok (.goto 4, 3) := by decide +kernel
theorem dX5_flagOf_21 : decode cX5_flagOf 21 = .ok (.iconst 0, 1) := by decide +kernel
theorem dX5_flagOf_22 : decode cX5_flagOf 22 = .ok (.ireturn, 1) := by decide +kernel
theorem dX5_holds_0 : decode cX5_holds 0 = .ok (.iload_n 1, 1) := by decide +kernel
theorem dX5_holds_1 : decode cX5_holds 1 = .ok (.ifCond .lt 11, 3) := by decide +kernel
theorem dX5_holds_4 : decode cX5_holds 4 = .ok (.iload_n 1, 1) := by decide +kernel
theorem dX5_holds_5 : decode cX5_holds 5 = .ok (.aload_n 0, 1) := by decide +kernel
theorem dX5_holds_6 : decode cX5_holds 6 = .ok (.getfield 26, 3) := by decide +kernel
theorem dX5_holds_9 : decode cX5_holds 9 = .ok (.if_icmp .lt 5, 3) := by decide +kernel
theorem dX5_holds_12 : decode cX5_holds 12 = .ok (.iconst 0, 1) := by decide +kernel
theorem dX5_holds_13 : decode cX5_holds 13 = .ok (.ireturn, 1) := by decide +kernel
theorem dX5_holds_14 : decode cX5_holds 14 = .ok (.iconst 0, 1) := by decide +kernel
theorem dX5_holds_15 : decode cX5_holds 15 = .ok (.istore_n 3, 1) := by decide +kernel
theorem dX5_holds_16 : decode cX5_holds 16 = .ok (.iload_n 3, 1) := by decide +kernel
theorem dX5_holds_17 : decode cX5_holds 17 = .ok (.aload_n 0, 1) := by decide +kernel
theorem dX5_holds_18 : decode cX5_holds 18 = .ok (.getfield 15, 3) := by decide +kernel
theorem dX5_holds_21 : decode cX5_holds 21 = .ok (.iload_n 1, 1) := by decide +kernel
theorem dX5_holds_22 : decode cX5_holds 22 = .ok (.iaload, 1) := by decide +kernel
theorem dX5_holds_23 : decode cX5_holds 23 = .ok (.if_icmp .ge 34, 3) := by decide +kernel
theorem dX5_holds_26 : decode cX5_holds 26 = .ok (.aload_n 2, 1) := by decide +kernel
theorem dX5_holds_27 : decode cX5_holds 27 = .ok (.aload_n 0, 1) := by decide +kernel
theorem dX5_holds_28 : decode cX5_holds 28 = .ok (.getfield 20, 3) := by decide +kernel
theorem dX5_holds_31 : decode cX5_holds 31 = .ok (.iload_n 1, 1) := by decide +kernel
theorem dX5_holds_32 : decode cX5_holds 32 = .ok (.aaload, 1) := by decide +kernel
theorem dX5_holds_33 : decode cX5_holds 33 = .ok (.iload_n 3, 1) := by decide +kernel
theorem dX5_holds_34 : decode cX5_holds 34 = .ok (.iaload, 1) := by decide +kernel
theorem dX5_holds_35 : decode cX5_holds 35 = .ok (.aload_n 0, 1) := by decide +kernel
theorem dX5_holds_36 : decode cX5_holds 36 = .ok (.getfield 23, 3) := by decide +kernel
theorem dX5_holds_39 : decode cX5_holds 39 = .ok (.iload_n 1, 1) := by decide +kernel
theorem dX5_holds_40 : decode cX5_holds 40 = .ok (.aaload, 1) := by decide +kernel
theorem dX5_holds_41 : decode cX5_holds 41 = .ok (.iload_n 3, 1) := by decide +kernel
theorem dX5_holds_42 : decode cX5_holds 42 = .ok (.iaload, 1) := by decide +kernel
theorem dX5_holds_43 : decode cX5_holds 43 = .ok (.invokevirtual 30, 3) := by decide +kernel
theorem dX5_holds_46 : decode cX5_holds 46 = .ok (.ifCond .ne 5, 3) := by decide +kernel
theorem dX5_holds_49 : decode cX5_holds 49 = .ok (.iconst 0, 1) := by decide +kernel
theorem dX5_holds_50 : decode cX5_holds 50 = .ok (.ireturn, 1) := by decide +kernel
theorem dX5_holds_51 : decode cX5_holds 51 = .ok (.iinc 3 1, 3) := by decide +kernel
theorem dX5_holds_54 : decode cX5_holds 54 = .ok (.goto (-38), 3) := by decide +kernel
theorem dX5_holds_57 : decode cX5_holds 57 = .ok (.iconst 1, 1) := by decide +kernel
theorem dX5_holds_58 : decode cX5_holds 58 = .ok (.ireturn, 1) := by decide +kernel
theorem dX5_readFrom_0 : decode cX5_readFrom 0 = .ok (.aload_n 0, 1) := by decide +kernel
theorem dX5_readFrom_1 : decode cX5_readFrom 1 = .ok (.iconst 0, 1) := by decide +kernel
theorem dX5_readFrom_2 : decode cX5_readFrom 2 = .ok (.putfield 26, 3) := by decide +kernel
theorem dX5_readFrom_5 : decode cX5_readFrom 5 = .ok (.aload_n 1, 1) := by decide +kernel
theorem dX5_readFrom_6 : decode cX5_readFrom 6 = .ok (.invokevirtual 36, 3) := by decide +kernel
theorem dX5_readFrom_9 : decode cX5_readFrom 9 = .ok (.aload_n 1, 1) := by decide +kernel
theorem dX5_readFrom_10 : decode cX5_readFrom 10 = .ok (.invokevirtual 41, 3) := by decide +kernel
theorem dX5_readFrom_13 : decode cX5_readFrom 13 = .ok (.ifCond .eq 5, 3) := by decide +kernel
theorem dX5_readFrom_16 : decode cX5_readFrom 16 = .ok (.iconst (-1), 1) := by decide +kernel
theorem dX5_readFrom_17 : decode cX5_readFrom 17 = .ok (.ireturn, 1) := by decide +kernel
theorem dX5_readFrom_18 : decode cX5_readFrom 18 = .ok (.iconst 0, 1) := by decide +kernel
theorem dX5_readFrom_19 : decode cX5_readFrom 19 = .ok (.istore_n 2, 1) := by decide +kernel
theorem dX5_readFrom_20 : decode cX5_readFrom 20 = .ok (.iload_n 2, 1) := by decide +kernel
theorem dX5_readFrom_21 : decode cX5_readFrom 21 = .ok (.bipush 8, 2) := by decide +kernel
theorem dX5_readFrom_23 : decode cX5_readFrom 23 = .ok (.if_icmp .ge 53, 3) := by decide +kernel
theorem dX5_readFrom_26 : decode cX5_readFrom 26 = .ok (.aload_n 0, 1) := by decide +kernel
theorem dX5_readFrom_27 : decode cX5_readFrom 27 = .ok (.aload_n 1, 1) := by decide +kernel
theorem dX5_readFrom_28 : decode cX5_readFrom 28 = .ok (.iload_n 2, 1) := by decide +kernel
theorem dX5_readFrom_29 : decode cX5_readFrom 29 = .ok (.invokevirtual 45, 3) := by decide +kernel
theorem dX5_readFrom_32 : decode cX5_readFrom 32 = .ok (.ifCond .ne 8, 3) := by decide +kernel
theorem dX5_readFrom_35 : decode cX5_readFrom 35 = .ok (.aload_n 1, 1) := by decide +kernel
theorem dX5_readFrom_36 : decode cX5_readFrom 36 = .ok (.invokevirtual 49, 3) := by decide +kernel
theorem dX5_readFrom_39 : decode cX5_readFrom 39 = .ok (.ireturn, 1) := by decide +kernel
theorem dX5_readFrom_40 : decode cX5_readFrom 40 = .ok (.aload_n 0, 1) := by decide +kernel
theorem dX5_readFrom_41 : decode cX5_readFrom 41 = .ok (.iload_n 2, 1) := by decide +kernel
theorem dX5_readFrom_42 : decode cX5_readFrom 42 = .ok (.iconst 1, 1) := by decide +kernel
theorem dX5_readFrom_43 : decode cX5_readFrom 43 = .ok (.iadd, 1) := by decide +kernel
theorem dX5_readFrom_44 : decode cX5_readFrom 44 = .ok (.putfield 26, 3) := by decide +kernel
theorem dX5_readFrom_47 : decode cX5_readFrom 47 = .ok (.aload_n 1, 1) := by decide +kernel
theorem dX5_readFrom_48 : decode cX5_readFrom 48 = .ok (.invokevirtual 41, 3) := by decide +kernel
theorem dX5_readFrom_51 : decode cX5_readFrom 51 = .ok (.ifCond .eq 5, 3) := by decide +kernel
theorem dX5_readFrom_54 : decode cX5_readFrom 54 = .ok (.iconst (-1), 1) := by decide +kernel
theorem dX5_readFrom_55 : decode cX5_readFrom 55 = .ok (.ireturn, 1) := by decide +kernel
theorem dX5_readFrom_56 : decode cX5_readFrom 56 = .ok (.aload_n 1, 1) := by decide +kernel
theorem dX5_readFrom_57 : decode cX5_readFrom 57 = .ok (.bipush 59, 2) := by decide +kernel
theorem dX5_readFrom_59 : decode cX5_readFrom 59 = .ok (.invokevirtual 53, 3) := by decide +kernel
theorem dX5_readFrom_62 : decode cX5_readFrom 62 = .ok (.ifCond .ne 8, 3) := by decide +kernel
theorem dX5_readFrom_65 : decode cX5_readFrom 65 = .ok (.aload_n 1, 1) := by decide +kernel
theorem dX5_readFrom_66 : decode cX5_readFrom 66 = .ok (.invokevirtual 49, 3) := by decide +kernel
theorem dX5_readFrom_69 : decode cX5_readFrom 69 = .ok (.ireturn, 1) := by decide +kernel
theorem dX5_readFrom_70 : decode cX5_readFrom 70 = .ok (.iinc 2 1, 3) := by decide +kernel
theorem dX5_readFrom_73 : decode cX5_readFrom 73 = .ok (.goto (-53), 3) := by decide +kernel
theorem dX5_readFrom_76 : decode cX5_readFrom 76 = .ok (.aload_n 1, 1) := by decide +kernel
theorem dX5_readFrom_77 : decode cX5_readFrom 77 = .ok (.invokevirtual 49, 3) := by decide +kernel
theorem dX5_readFrom_80 : decode cX5_readFrom 80 = .ok (.ireturn, 1) := by decide +kernel
theorem dX5_readRule_0 : decode cX5_readRule 0 = .ok (.aload_n 1, 1) := by decide +kernel
theorem dX5_readRule_1 : decode cX5_readRule 1 = .ok (.invokestatic 57, 3) := by decide +kernel
theorem dX5_readRule_4 : decode cX5_readRule 4 = .ok (.istore_n 3, 1) := by decide +kernel
theorem dX5_readRule_5 : decode cX5_readRule 5 = .ok (.iload_n 3, 1) := by decide +kernel
theorem dX5_readRule_6 : decode cX5_readRule 6 = .ok (.iconst (-1), 1) := by decide +kernel
theorem dX5_readRule_7 : decode cX5_readRule 7 = .ok (.if_icmp .ne 5, 3) := by decide +kernel
theorem dX5_readRule_10 : decode cX5_readRule 10 = .ok (.iconst 0, 1) := by decide +kernel
theorem dX5_readRule_11 : decode cX5_readRule 11 = .ok (.ireturn, 1) := by decide +kernel
theorem dX5_readRule_12 : decode cX5_readRule 12 = .ok (.aload_n 0, 1) := by decide +kernel
theorem dX5_readRule_13 : decode cX5_readRule 13 = .ok (.getfield 11, 3) := by decide +kernel
theorem dX5_readRule_16 : decode cX5_readRule 16 = .ok (.iload_n 2, 1) := by decide +kernel
theorem dX5_readRule_17 : decode cX5_readRule 17 = .ok (.iload_n 3, 1) := by decide +kernel
theorem dX5_readRule_18 : decode cX5_readRule 18 = .ok (.iastore, 1) := by decide +kernel
theorem dX5_readRule_19 : decode cX5_readRule 19 = .ok (.iconst 0, 1) := by decide +kernel
theorem dX5_readRule_20 : decode cX5_readRule 20 = .ok (.istore 4, 2) := by decide +kernel
theorem dX5_readRule_22 : decode cX5_readRule 22 = .ok (.iload 4, 2) := by decide +kernel
theorem dX5_readRule_24 : decode cX5_readRule 24 = .ok (.iconst 4, 1) := by decide +kernel
theorem dX5_readRule_25 : decode cX5_readRule 25 = .ok (.if_icmp .ge 51, 3) := by decide +kernel
theorem dX5_readRule_28 : decode cX5_readRule 28 = .ok (.aload_n 0, 1) := by decide +kernel
theorem dX5_readRule_29 : decode cX5_readRule 29 = .ok (.aload_n 1, 1) := by decide +kernel
theorem dX5_readRule_30 : decode cX5_readRule 30 = .ok (.iload_n 2, 1) := by decide +kernel
theorem dX5_readRule_31 : decode cX5_readRule 31 = .ok (.iload 4, 2) := by decide +kernel
theorem dX5_readRule_33 : decode cX5_readRule 33 = .ok (.invokevirtual 61, 3) := by decide +kernel
theorem dX5_readRule_36 : decode cX5_readRule 36 = .ok (.ifCond .ne 5, 3) := by decide +kernel
theorem dX5_readRule_39 : decode cX5_readRule 39 = .ok (.iconst 0, 1) := by decide +kernel
theorem dX5_readRule_40 : decode cX5_readRule 40 = .ok (.ireturn, 1) := by decide +kernel
theorem dX5_readRule_41 : decode cX5_readRule 41 = .ok (.aload_n 0, 1) := by decide +kernel
theorem dX5_readRule_42 : decode cX5_readRule 42 = .ok (.getfield 15, 3) := by decide +kernel
theorem dX5_readRule_45 : decode cX5_readRule 45 = .ok (.iload_n 2, 1) := by decide +kernel
theorem dX5_readRule_46 : decode cX5_readRule 46 = .ok (.iload 4, 2) := by decide +kernel
theorem dX5_readRule_48 : decode cX5_readRule 48 = .ok (.iconst 1, 1) := by decide +kernel
theorem dX5_readRule_49 : decode cX5_readRule 49 = .ok (.iadd, 1) := by decide +kernel
theorem dX5_readRule_50 : decode cX5_readRule 50 = .ok (.iastore, 1) := by decide +kernel
theorem dX5_readRule_51 : decode cX5_readRule 51 = .ok (.iload 4, 2) := by decide +kernel
theorem dX5_readRule_53 : decode cX5_readRule 53 = .ok (.iconst 1, 1) := by decide +kernel
theorem dX5_readRule_54 : decode cX5_readRule 54 = .ok (.iadd, 1) := by decide +kernel
theorem dX5_readRule_55 : decode cX5_readRule 55 = .ok (.iconst 4, 1) := by decide +kernel
theorem dX5_readRule_56 : decode cX5_readRule 56 = .ok (.if_icmp .eq 12, 3) := by decide +kernel
theorem dX5_readRule_59 : decode cX5_readRule 59 = .ok (.aload_n 1, 1) := by decide +kernel
theorem dX5_readRule_60 : decode cX5_readRule 60 = .ok (.ldc 65, 2) := by decide +kernel
theorem dX5_readRule_62 : decode cX5_readRule 62 = .ok (.invokevirtual 67, 3) := by decide +kernel
theorem dX5_readRule_65 : decode cX5_readRule 65 = .ok (.ifCond .ne 5, 3) := by decide +kernel
theorem dX5_readRule_68 : decode cX5_readRule 68 = .ok (.iconst 1, 1) := by decide +kernel
theorem dX5_readRule_69 : decode cX5_readRule 69 = .ok (.ireturn, 1) := by decide +kernel
theorem dX5_readRule_70 : decode cX5_readRule 70 = .ok (.iinc 4 1, 3) := by decide +kernel
theorem dX5_readRule_73 : decode cX5_readRule 73 = .ok (.goto (-51), 3) := by decide +kernel
theorem dX5_readRule_76 : decode cX5_readRule 76 = .ok (.iconst 1, 1) := by decide +kernel
theorem dX5_readRule_77 : decode cX5_readRule 77 = .ok (.ireturn, 1) := by decide +kernel
theorem dX5_readCondition_0 : decode cX5_readCondition 0 = .ok (.aload_n 1, 1) := by decide +kernel
theorem dX5_readCondition_1 : decode cX5_readCondition 1 = .ok (.invokestatic 71, 3) := by decide +kernel
theorem dX5_readCondition_4 : decode cX5_readCondition 4 = .ok (.istore 4, 2) := by decide +kernel
theorem dX5_readCondition_6 : decode cX5_readCondition 6 = .ok (.iload 4, 2) := by decide +kernel
theorem dX5_readCondition_8 : decode cX5_readCondition 8 = .ok (.iconst (-1), 1) := by decide +kernel
theorem dX5_readCondition_9 : decode cX5_readCondition 9 = .ok (.if_icmp .eq 15, 3) := by decide +kernel
theorem dX5_readCondition_12 : decode cX5_readCondition 12 = .ok (.aload_n 1, 1) := by decide +kernel
theorem dX5_readCondition_13 : decode cX5_readCondition 13 = .ok (.iload 4, 2) := by decide +kernel
theorem dX5_readCondition_15 : decode cX5_readCondition 15 = .ok (.invokestatic 74, 3) := by decide +kernel
theorem dX5_readCondition_18 : decode cX5_readCondition 18 = .ok (.invokevirtual 53, 3) := by decide +kernel
theorem dX5_readCondition_21 : decode cX5_readCondition 21 = .ok (.ifCond .ne 5, 3) := by decide +kernel
theorem dX5_readCondition_24 : decode cX5_readCondition 24 = .ok (.iconst 0, 1) := by decide +kernel
theorem dX5_readCondition_25 : decode cX5_readCondition 25 = .ok (.ireturn, 1) := by decide +kernel
theorem dX5_readCondition_26 : decode cX5_readCondition 26 = .ok (.aload_n 1, 1) := by decide +kernel
theorem dX5_readCondition_27 : decode cX5_readCondition 27 = .ok (.invokevirtual 78, 3) := by decide +kernel
theorem dX5_readCondition_30 : decode cX5_readCondition 30 = .ok (.istore 5, 2) := by decide +kernel
theorem dX5_readCondition_32 : decode cX5_readCondition 32 = .ok (.iload 5, 2) := by decide +kernel
theorem dX5_readCondition_34 : decode cX5_readCondition 34 = .ok (.iconst (-1), 1) := by decide +kernel
theorem dX5_readCondition_35 : decode cX5_readCondition 35 = .ok (.if_icmp .ne 5, 3) := by decide +kernel
theorem dX5_readCondition_38 : decode cX5_readCondition 38 = .ok (.iconst 0, 1) := by decide +kernel
theorem dX5_readCondition_39 : decode cX5_readCondition 39 = .ok (.ireturn, 1) := by decide +kernel
theorem dX5_readCondition_40 : decode cX5_readCondition 40 = .ok (.aload_n 0, 1) := by decide +kernel
theorem dX5_readCondition_41 : decode cX5_readCondition 41 = .ok (.getfield 20, 3) := by decide +kernel
theorem dX5_readCondition_44 : decode cX5_readCondition 44 = .ok (.iload_n 2, 1) := by decide +kernel
theorem dX5_readCondition_45 : decode cX5_readCondition 45 = .ok (.aaload, 1) := by decide +kernel
theorem dX5_readCondition_46 : decode cX5_readCondition 46 = .ok (.iload_n 3, 1) := by decide +kernel
theorem dX5_readCondition_47 : decode cX5_readCondition 47 = .ok (.iload 4, 2) := by decide +kernel
theorem dX5_readCondition_49 : decode cX5_readCondition 49 = .ok (.iastore, 1) := by decide +kernel
theorem dX5_readCondition_50 : decode cX5_readCondition 50 = .ok (.aload_n 0, 1) := by decide +kernel
theorem dX5_readCondition_51 : decode cX5_readCondition 51 = .ok (.getfield 23, 3) := by decide +kernel
theorem dX5_readCondition_54 : decode cX5_readCondition 54 = .ok (.iload_n 2, 1) := by decide +kernel
theorem dX5_readCondition_55 : decode cX5_readCondition 55 = .ok (.aaload, 1) := by decide +kernel
theorem dX5_readCondition_56 : decode cX5_readCondition 56 = .ok (.iload_n 3, 1) := by decide +kernel
theorem dX5_readCondition_57 : decode cX5_readCondition 57 = .ok (.iload 5, 2) := by decide +kernel
theorem dX5_readCondition_59 : decode cX5_readCondition 59 = .ok (.iastore, 1) := by decide +kernel
theorem dX5_readCondition_60 : decode cX5_readCondition 60 = .ok (.iconst 1, 1) := by decide +kernel
theorem dX5_readCondition_61 : decode cX5_readCondition 61 = .ok (.ireturn, 1) := by decide +kernel
theorem dX5_readFlag_0 : decode cX5_readFlag 0 = .ok (.aload_n 0, 1) := by decide +kernel
theorem dX5_readFlag_1 : decode cX5_readFlag 1 = .ok (.ldc 81, 2) := by decide +kernel
theorem dX5_readFlag_3 : decode cX5_readFlag 3 = .ok (.invokevirtual 67, 3) := by decide +kernel
theorem dX5_readFlag_6 : decode cX5_readFlag 6 = .ok (.ifCond .eq 5, 3) := by decide +kernel
theorem dX5_readFlag_9 : decode cX5_readFlag 9 = .ok (.iconst 0, 1) := by decide +kernel
theorem dX5_readFlag_10 : decode cX5_readFlag 10 = .ok (.ireturn, 1) := by decide +kernel
theorem dX5_readFlag_11 : decode cX5_readFlag 11 = .ok (.aload_n 0, 1) := by decide +kernel
theorem dX5_readFlag_12 : decode cX5_readFlag 12 = .ok (.ldc 83, 2) := by decide +kernel
theorem dX5_readFlag_14 : decode cX5_readFlag 14 = .ok (.invokevirtual 67, 3) := by decide +kernel
theorem dX5_readFlag_17 : decode cX5_readFlag 17 = .ok (.ifCond .eq 7, 3) := by decide +kernel
theorem dX5_readFlag_20 : decode cX5_readFlag 20 = .ok (.iconst 1, 1) := by decide +kernel
theorem dX5_readFlag_21 : decode cX5_readFlag 21 = .ok (.goto 4, 3) := by decide +kernel
theorem dX5_readFlag_24 : decode cX5_readFlag 24 = .ok (.iconst (-1), 1) := by decide +kernel
theorem dX5_readFlag_25 : decode cX5_readFlag 25 = .ok (.ireturn, 1) := by decide +kernel
theorem dX5_readKind_0 : decode cX5_readKind 0 = .ok (.aload_n 0, 1) := by decide +kernel
theorem dX5_readKind_1 : decode cX5_readKind 1 = .ok (.ldc 85, 2) := by decide +kernel
theorem dX5_readKind_3 : decode cX5_readKind 3 = .ok (.invokevirtual 67, 3) := by decide +kernel
theorem dX5_readKind_6 : decode cX5_readKind 6 = .ok (.ifCond .eq 5, 3) := by decide +kernel
theorem dX5_readKind_9 : decode cX5_readKind 9 = .ok (.iconst 0, 1) := by decide +kernel
theorem dX5_readKind_10 : decode cX5_readKind 10 = .ok (.ireturn, 1) := by decide +kernel
theorem dX5_readKind_11 : decode cX5_readKind 11 = .ok (.aload_n 0, 1) := by decide +kernel
theorem dX5_readKind_12 : decode cX5_readKind 12 = .ok (.ldc 87, 2) := by decide +kernel
theorem dX5_readKind_14 : decode cX5_readKind 14 = .ok (.invokevirtual 67, 3) := by decide +kernel
theorem dX5_readKind_17 : decode cX5_readKind 17 = .ok (.ifCond .eq 5, 3) := by decide +kernel
theorem dX5_readKind_20 : decode cX5_readKind 20 = .ok (.iconst 1, 1) := by decide +kernel
theorem dX5_readKind_21 : decode cX5_readKind 21 = .ok (.ireturn, 1) := by decide +kernel
theorem dX5_readKind_22 : decode cX5_readKind 22 = .ok (.aload_n 0, 1) := by decide +kernel
theorem dX5_readKind_23 : decode cX5_readKind 23 = .ok (.ldc 89, 2) := by decide +kernel
theorem dX5_readKind_25 : decode cX5_readKind 25 = .ok (.invokevirtual 67, 3) := by decide +kernel
theorem dX5_readKind_28 : decode cX5_readKind 28 = .ok (.ifCond .eq 5, 3) := by decide +kernel
theorem dX5_readKind_31 : decode cX5_readKind 31 = .ok (.iconst 2, 1) := by decide +kernel
theorem dX5_readKind_32 : decode cX5_readKind 32 = .ok (.ireturn, 1) := by decide +kernel
theorem dX5_readKind_33 : decode cX5_readKind 33 = .ok (.aload_n 0, 1) := by decide +kernel
theorem dX5_readKind_34 : decode cX5_readKind 34 = .ok (.ldc 91, 2) := by decide +kernel
theorem dX5_readKind_36 : decode cX5_readKind 36 = .ok (.invokevirtual 67, 3) := by decide +kernel
theorem dX5_readKind_39 : decode cX5_readKind 39 = .ok (.ifCond .eq 7, 3) := by decide +kernel
theorem dX5_readKind_42 : decode cX5_readKind 42 = .ok (.iconst 3, 1) := by decide +kernel
theorem dX5_readKind_43 : decode cX5_readKind 43 = .ok (.goto 4, 3) := by decide +kernel
theorem dX5_readKind_46 : decode cX5_readKind 46 = .ok (.iconst (-1), 1) := by decide +kernel
theorem dX5_readKind_47 : decode cX5_readKind 47 = .ok (.ireturn, 1) := by decide +kernel
theorem dX6_init_0 : decode cX6_init 0 = .ok (.aload_n 0, 1) := by decide +kernel
theorem dX6_init_1 : decode cX6_init 1 = .ok (.invokespecial 3, 3) := by decide +kernel
theorem dX6_init_4 : decode cX6_init 4 = .ok (.aload_n 0, 1) := by decide +kernel
theorem dX6_init_5 : decode cX6_init 5 = .ok (.sipush 400, 3) := by decide +kernel
theorem dX6_init_8 : decode cX6_init 8 = .ok (.newarray .int, 2) := by decide +kernel
theorem dX6_init_10 : decode cX6_init 10 = .ok (.putfield 9, 3) := by decide +kernel
theorem dX6_init_13 : decode cX6_init 13 = .ok (.aload_n 0, 1) := by decide +kernel
theorem dX6_init_14 : decode cX6_init 14 = .ok (.iconst 0, 1) := by decide +kernel
theorem dX6_init_15 : decode cX6_init 15 = .ok (.putfield 15, 3) := by decide +kernel
theorem dX6_init_18 : decode cX6_init 18 = .ok (.aload_n 0, 1) := by decide +kernel
theorem dX6_init_19 : decode cX6_init 19 = .ok (.iconst 0, 1) := by decide +kernel
theorem dX6_init_20 : decode cX6_init 20 = .ok (.putfield 19, 3) := by decide +kernel
theorem dX6_init_23 : decode cX6_init 23 = .ok (.return_, 1) := by decide +kernel
theorem dX6_length_0 : decode cX6_length 0 = .ok (.aload_n 0, 1) := by decide +kernel
theorem dX6_length_1 : decode cX6_length 1 = .ok (.getfield 15, 3) := by decide +kernel
theorem dX6_length_4 : decode cX6_length 4 = .ok (.ireturn, 1) := by decide +kernel
theorem dX6_place_0 : decode cX6_place 0 = .ok (.aload_n 0, 1) := by decide +kernel
theorem dX6_place_1 : decode cX6_place 1 = .ok (.getfield 19, 3) := by decide +kernel
theorem dX6_place_4 : decode cX6_place 4 = .ok (.ireturn, 1) := by decide +kernel
theorem dX6_hasRoomFor_0 : decode cX6_hasRoomFor 0 = .ok (.aload_n 0, 1) := by decide +kernel
theorem dX6_hasRoomFor_1 : decode cX6_hasRoomFor 1 = .ok (.getfield 15, 3) := by decide +kernel
theorem dX6_hasRoomFor_4 : decode cX6_hasRoomFor 4 = .ok (.iload_n 1, 1) := by decide +kernel
theorem dX6_hasRoomFor_5 : decode cX6_hasRoomFor 5 = .ok (.iadd, 1) := by decide +kernel
theorem dX6_hasRoomFor_6 : decode cX6_hasRoomFor 6 = .ok (.sipush 400, 3) := by decide +kernel
theorem dX6_hasRoomFor_9 : decode cX6_hasRoomFor 9 = .ok (.if_icmp .gt 7, 3) := by decide +kernel
theorem dX6_hasRoomFor_12 : decode cX6_hasRoomFor 12 = .ok (.iconst 1, 1) := by decide +kernel
theorem dX6_hasRoomFor_13 : decode cX6_hasRoomFor 13 = .ok (.goto 4, 3) := by decide +kernel
theorem dX6_hasRoomFor_16 : decode cX6_hasRoomFor 16 = .ok (.iconst 0, 1) := by decide +kernel
theorem dX6_hasRoomFor_17 : decode cX6_hasRoomFor 17 = .ok (.ireturn, 1) := by decide +kernel
theorem dX6_append_0 : decode cX6_append 0 = .ok (.iconst 3, 1) := by decide +kernel
theorem dX6_append_1 : decode cX6_append 1 = .ok (.istore_n 2, 1) := by decide +kernel
theorem dX6_append_2 : decode cX6_append 2 = .ok (.iload_n 2, 1) := by decide +kernel
theorem dX6_append_3 : decode cX6_append 3 = .ok (.ifCond .lt 50, 3) := by decide +kernel
theorem dX6_append_6 : decode cX6_append 6 = .ok (.aload_n 0, 1) := by decide +kernel
theorem dX6_append_7 : decode cX6_append 7 = .ok (.getfield 15, 3) := by decide +kernel
theorem dX6_append_10 : decode cX6_append 10 = .ok (.aload_n 0, 1) := by decide +kernel
theorem dX6_append_11 : decode cX6_append 11 = .ok (.getfield 9, 3) := by decide +kernel
theorem dX6_append_14 : decode cX6_append 14 = .ok (.arraylength, 1) := by decide +kernel
theorem dX6_append_15 : decode cX6_append 15 = .ok (.if_icmp .ge 32, 3) := by decide +kernel
theorem dX6_append_18 : decode cX6_append 18 = .ok (.aload_n 0, 1) := by decide +kernel
theorem dX6_append_19 : decode cX6_append 19 = .ok (.getfield 9, 3) := by decide +kernel
theorem dX6_append_22 : decode cX6_append 22 = .ok (.aload_n 0, 1) := by decide +kernel
theorem dX6_append_23 : decode cX6_append 23 = .ok (.getfield 15, 3) := by decide +kernel
theorem dX6_append_26 : decode cX6_append 26 = .ok (.iload_n 1, 1) := by decide +kernel
theorem dX6_append_27 : decode cX6_append 27 = .ok (.iload_n 2, 1) := by decide +kernel
theorem dX6_append_28 : decode cX6_append 28 = .ok (.bipush 8, 2) := by decide +kernel
theorem dX6_append_30 : decode cX6_append 30 = .ok (.imul, 1) := by decide +kernel
theorem dX6_append_31 : decode cX6_append 31 = .ok (.iushr, 1) := by decide +kernel
theorem dX6_append_32 : decode cX6_append 32 = .ok (.sipush 255, 3) := by decide +kernel
theorem dX6_append_35 : decode cX6_append 35 = .ok (.iand, 1) := by decide +kernel
theorem dX6_append_36 : decode cX6_append 36 = .ok (.iastore, 1) := by decide +kernel
theorem dX6_append_37 : decode cX6_append 37 = .ok (.aload_n 0, 1) := by decide +kernel
theorem dX6_append_38 : decode cX6_append 38 = .ok (.dup, 1) := by decide +kernel
theorem dX6_append_39 : decode cX6_append 39 = .ok (.getfield 15, 3) := by decide +kernel
theorem dX6_append_42 : decode cX6_append 42 = .ok (.iconst 1, 1) := by decide +kernel
theorem dX6_append_43 : decode cX6_append 43 = .ok (.iadd, 1) := by decide +kernel
theorem dX6_append_44 : decode cX6_append 44 = .ok (.putfield 15, 3) := by decide +kernel
theorem dX6_append_47 : decode cX6_append 47 = .ok (.iinc 2 (-1), 3) := by decide +kernel
theorem dX6_append_50 : decode cX6_append 50 = .ok (.goto (-48), 3) := by decide +kernel
theorem dX6_append_53 : decode cX6_append 53 = .ok (.return_, 1) := by decide +kernel
theorem dX6_cutTo_0 : decode cX6_cutTo 0 = .ok (.iload_n 1, 1) := by decide +kernel
theorem dX6_cutTo_1 : decode cX6_cutTo 1 = .ok (.ifCond .lt 11, 3) := by decide +kernel
theorem dX6_cutTo_4 : decode cX6_cutTo 4 = .ok (.iload_n 1, 1) := by decide +kernel
theorem dX6_cutTo_5 : decode cX6_cutTo 5 = .ok (.aload_n 0, 1) := by decide +kernel
theorem dX6_cutTo_6 : decode cX6_cutTo 6 = .ok (.getfield 15, 3) := by decide +kernel
theorem dX6_cutTo_9 : decode cX6_cutTo 9 = .ok (.if_icmp .le 5, 3) := by decide +kernel
theorem dX6_cutTo_12 : decode cX6_cutTo 12 = .ok (.iconst 0, 1) := by decide +kernel
theorem dX6_cutTo_13 : decode cX6_cutTo 13 = .ok (.ireturn, 1) := by decide +kernel
theorem dX6_cutTo_14 : decode cX6_cutTo 14 = .ok (.aload_n 0, 1) := by decide +kernel
theorem dX6_cutTo_15 : decode cX6_cutTo 15 = .ok (.iload_n 1, 1) := by decide +kernel
theorem dX6_cutTo_16 : decode cX6_cutTo 16 = .ok (.putfield 15, 3) := by decide +kernel
theorem dX6_cutTo_19 : decode cX6_cutTo 19 = .ok (.iconst 1, 1) := by decide +kernel
theorem dX6_cutTo_20 : decode cX6_cutTo 20 = .ok (.ireturn, 1) := by decide +kernel
theorem dX6_rewind_0 : decode cX6_rewind 0 = .ok (.aload_n 0, 1) := by decide +kernel
theorem dX6_rewind_1 : decode cX6_rewind 1 = .ok (.iconst 0, 1) := by decide +kernel
theorem dX6_rewind_2 : decode cX6_rewind 2 = .ok (.invokevirtual 22, 3) := by decide +kernel
theorem dX6_rewind_5 : decode cX6_rewind 5 = .ok (.return_, 1) := by decide +kernel
theorem dX6_isReadUp_0 : decode cX6_isReadUp 0 = .ok (.aload_n 0, 1) := by decide +kernel
theorem dX6_isReadUp_1 : decode cX6_isReadUp 1 = .ok (.getfield 19, 3) := by decide +kernel
theorem dX6_isReadUp_4 : decode cX6_isReadUp 4 = .ok (.aload_n 0, 1) := by decide +kernel
theorem dX6_isReadUp_5 : decode cX6_isReadUp 5 = .ok (.getfield 15, 3) := by decide +kernel
theorem dX6_isReadUp_8 : decode cX6_isReadUp 8 = .ok (.if_icmp .lt 7, 3) := by decide +kernel
theorem dX6_isReadUp_11 : decode cX6_isReadUp 11 = .ok (.iconst 1, 1) := by decide +kernel
theorem dX6_isReadUp_12 : decode cX6_isReadUp 12 = .ok (.goto 4, 3) := by decide +kernel
theorem dX6_isReadUp_15 : decode cX6_isReadUp 15 = .ok (.iconst 0, 1) := by decide +kernel
theorem dX6_isReadUp_16 : decode cX6_isReadUp 16 = .ok (.ireturn, 1) := by decide +kernel
theorem dX6_takeSign_0 : decode cX6_takeSign 0 = .ok (.aload_n 0, 1) := by decide +kernel
theorem dX6_takeSign_1 : decode cX6_takeSign 1 = .ok (.aload_n 0, 1) := by decide +kernel
theorem dX6_takeSign_2 : decode cX6_takeSign 2 = .ok (.getfield 19, 3) := by decide +kernel
theorem dX6_takeSign_5 : decode cX6_takeSign 5 = .ok (.invokevirtual 26, 3) := by decide +kernel
theorem dX6_takeSign_8 : decode cX6_takeSign 8 = .ok (.iload_n 1, 1) := by decide +kernel
theorem dX6_takeSign_9 : decode cX6_takeSign 9 = .ok (.if_icmp .eq 5, 3) := by decide +kernel
theorem dX6_takeSign_12 : decode cX6_takeSign 12 = .ok (.iconst 0, 1) := by decide +kernel
theorem dX6_takeSign_13 : decode cX6_takeSign 13 = .ok (.ireturn, 1) := by decide +kernel
theorem dX6_takeSign_14 : decode cX6_takeSign 14 = .ok (.aload_n 0, 1) := by decide +kernel
theorem dX6_takeSign_15 : decode cX6_takeSign 15 = .ok (.aload_n 0, 1) := by decide +kernel
theorem dX6_takeSign_16 : decode cX6_takeSign 16 = .ok (.getfield 19, 3) := by decide +kernel
theorem dX6_takeSign_19 : decode cX6_takeSign 19 = .ok (.iconst 1, 1) := by decide +kernel
theorem dX6_takeSign_20 : decode cX6_takeSign 20 = .ok (.iadd, 1) := by decide +kernel
theorem dX6_takeSign_21 : decode cX6_takeSign 21 = .ok (.invokevirtual 22, 3) := by decide +kernel
theorem dX6_takeSign_24 : decode cX6_takeSign 24 = .ok (.iconst 1, 1) := by decide +kernel
theorem dX6_takeSign_25 : decode cX6_takeSign 25 = .ok (.ireturn, 1) := by decide +kernel
theorem dX6_takeWord_0 : decode cX6_takeWord 0 = .ok (.aload_n 0, 1) := by decide +kernel
theorem dX6_takeWord_1 : decode cX6_takeWord 1 = .ok (.bipush 97, 2) := by decide +kernel
theorem dX6_takeWord_3 : decode cX6_takeWord 3 = .ok (.bipush 122, 2) := by decide +kernel
theorem dX6_takeWord_5 : decode cX6_takeWord 5 = .ok (.invokevirtual 30, 3) := by decide +kernel
theorem dX6_takeWord_8 : decode cX6_takeWord 8 = .ok (.istore_n 2, 1) := by decide +kernel
theorem dX6_takeWord_9 : decode cX6_takeWord 9 = .ok (.iload_n 2, 1) := by decide +kernel
theorem dX6_takeWord_10 : decode cX6_takeWord 10 = .ok (.aload_n 0, 1) := by decide +kernel
theorem dX6_takeWord_11 : decode cX6_takeWord 11 = .ok (.getfield 19, 3) := by decide +kernel
theorem dX6_takeWord_14 : decode cX6_takeWord 14 = .ok (.isub, 1) := by decide +kernel
theorem dX6_takeWord_15 : decode cX6_takeWord 15 = .ok (.aload_n 1, 1) := by decide +kernel
theorem dX6_takeWord_16 : decode cX6_takeWord 16 = .ok (.invokevirtual 34, 3) := by decide +kernel
theorem dX6_takeWord_19 : decode cX6_takeWord 19 = .ok (.if_icmp .eq 5, 3) := by decide +kernel
theorem dX6_takeWord_22 : decode cX6_takeWord 22 = .ok (.iconst 0, 1) := by decide +kernel
theorem dX6_takeWord_23 : decode cX6_takeWord 23 = .ok (.ireturn, 1) := by decide +kernel
theorem dX6_takeWord_24 : decode cX6_takeWord 24 = .ok (.iconst 0, 1) := by decide +kernel
theorem dX6_takeWord_25 : decode cX6_takeWord 25 = .ok (.istore_n 3, 1) := by decide +kernel
theorem dX6_takeWord_26 : decode cX6_takeWord 26 = .ok (.iload_n 3, 1) := by decide +kernel
theorem dX6_takeWord_27 : decode cX6_takeWord 27 = .ok (.aload_n 1, 1) := by decide +kernel
theorem dX6_takeWord_28 : decode cX6_takeWord 28 = .ok (.invokevirtual 34, 3) := by decide +kernel
theorem dX6_takeWord_31 : decode cX6_takeWord 31 = .ok (.if_icmp .ge 29, 3) := by decide +kernel
theorem dX6_takeWord_34 : decode cX6_takeWord 34 = .ok (.aload_n 0, 1) := by decide +kernel
theorem dX6_takeWord_35 : decode cX6_takeWord 35 = .ok (.aload_n 0, 1) := by decide +kernel
theorem dX6_takeWord_36 : decode cX6_takeWord 36 = .ok (.getfield 19, 3) := by decide +kernel
theorem dX6_takeWord_39 : decode cX6_takeWord 39 = .ok (.iload_n 3, 1) := by decide +kernel
theorem dX6_takeWord_40 : decode cX6_takeWord 40 = .ok (.iadd, 1) := by decide +kernel
theorem dX6_takeWord_41 : decode cX6_takeWord 41 = .ok (.invokevirtual 26, 3) := by decide +kernel
theorem dX6_takeWord_44 : decode cX6_takeWord 44 = .ok (.aload_n 1, 1) := by decide +kernel
theorem dX6_takeWord_45 : decode cX6_takeWord 45 = .ok (.iload_n 3, 1) := by decide +kernel
theorem dX6_takeWord_46 : decode cX6_takeWord 46 = .ok (.invokevirtual 39, 3) := by decide +kernel
theorem dX6_takeWord_49 : decode cX6_takeWord 49 = .ok (.if_icmp .eq 5, 3) := by decide +kernel
theorem dX6_takeWord_52 : decode cX6_takeWord 52 = .ok (.iconst 0, 1) := by decide +kernel
theorem dX6_takeWord_53 : decode cX6_takeWord 53 = .ok (.ireturn, 1) := by decide +kernel
theorem dX6_takeWord_54 : decode cX6_takeWord 54 = .ok (.iinc 3 1, 3) := by decide +kernel
theorem dX6_takeWord_57 : decode cX6_takeWord 57 = .ok (.goto (-31), 3) := by decide +kernel
theorem dX6_takeWord_60 : decode cX6_takeWord 60 = .ok (.aload_n 0, 1) := by decide +kernel
theorem dX6_takeWord_61 : decode cX6_takeWord 61 = .ok (.iload_n 2, 1) := by decide +kernel
theorem dX6_takeWord_62 : decode cX6_takeWord 62 = .ok (.invokevirtual 22, 3) := by decide +kernel
theorem dX6_takeWord_65 : decode cX6_takeWord 65 = .ok (.iconst 1, 1) := by decide +kernel
theorem dX6_takeWord_66 : decode cX6_takeWord 66 = .ok (.ireturn, 1) := by decide +kernel
theorem dX6_takeNumber_0 : decode cX6_takeNumber 0 = .ok (.aload_n 0, 1) := by decide +kernel
theorem dX6_takeNumber_1 : decode cX6_takeNumber 1 = .ok (.bipush 48, 2) := by decide +kernel
theorem dX6_takeNumber_3 : decode cX6_takeNumber 3 = .ok (.bipush 57, 2) := by decide +kernel
theorem dX6_takeNumber_5 : decode cX6_takeNumber 5 = .ok (.invokevirtual 30, 3) := by decide +kernel
theorem dX6_takeNumber_8 : decode cX6_takeNumber 8 = .ok (.istore_n 1, 1) := by decide +kernel
theorem dX6_takeNumber_9 : decode cX6_takeNumber 9 = .ok (.iload_n 1, 1) := by decide +kernel
theorem dX6_takeNumber_10 : decode cX6_takeNumber 10 = .ok (.aload_n 0, 1) := by decide +kernel
theorem dX6_takeNumber_11 : decode cX6_takeNumber 11 = .ok (.getfield 19, 3) := by decide +kernel
theorem dX6_takeNumber_14 : decode cX6_takeNumber 14 = .ok (.isub, 1) := by decide +kernel
theorem dX6_takeNumber_15 : decode cX6_takeNumber 15 = .ok (.iconst 1, 1) := by decide +kernel
theorem dX6_takeNumber_16 : decode cX6_takeNumber 16 = .ok (.iconst 5, 1) := by decide +kernel
theorem dX6_takeNumber_17 : decode cX6_takeNumber 17 = .ok (.invokestatic 43, 3) := by decide +kernel
theorem dX6_takeNumber_20 : decode cX6_takeNumber 20 = .ok (.ifCond .ne 5, 3) := by decide +kernel
theorem dX6_takeNumber_23 : decode cX6_takeNumber 23 = .ok (.iconst (-1), 1) := by decide +kernel
theorem dX6_takeNumber_24 : decode cX6_takeNumber 24 = .ok (.ireturn, 1) := by decide +kernel
theorem dX6_takeNumber_25 : decode cX6_takeNumber 25 = .ok (.iconst 0, 1) := by decide +kernel
theorem dX6_takeNumber_26 : decode cX6_takeNumber 26 = .ok (.istore_n 2, 1) := by decide +kernel
theorem dX6_takeNumber_27 : decode cX6_takeNumber 27 = .ok (.aload_n 0, 1) := by decide +kernel
theorem dX6_takeNumber_28 : decode cX6_takeNumber 28 = .ok (.getfield 19, 3) := by decide +kernel
theorem dX6_takeNumber_31 : decode cX6_takeNumber 31 = .ok (.istore_n 3, 1) := by decide +kernel
theorem dX6_takeNumber_32 : decode cX6_takeNumber 32 = .ok (.iload_n 3, 1) := by decide +kernel
theorem dX6_takeNumber_33 : decode cX6_takeNumber 33 = .ok (.iload_n 1, 1) := by decide +kernel
theorem dX6_takeNumber_34 : decode cX6_takeNumber 34 = .ok (.if_icmp .ge 23, 3) := by decide +kernel
theorem dX6_takeNumber_37 : decode cX6_takeNumber 37 = .ok (.iload_n 2, 1) := by decide +kernel
theorem dX6_takeNumber_38 : decode cX6_takeNumber 38 = .ok (.bipush 10, 2) := by decide +kernel
theorem dX6_takeNumber_40 : decode cX6_takeNumber 40 = .ok (.imul, 1) := by decide +kernel
theorem dX6_takeNumber_41 : decode cX6_takeNumber 41 = .ok (.aload_n 0, 1) := by decide +kernel
theorem dX6_takeNumber_42 : decode cX6_takeNumber 42 = .ok (.iload_n 3, 1) := by decide +kernel
theorem dX6_takeNumber_43 : decode cX6_takeNumber 43 = .ok (.invokevirtual 26, 3) := by decide +kernel
theorem dX6_takeNumber_46 : decode cX6_takeNumber 46 = .ok (.iadd, 1) := by decide +kernel
theorem dX6_takeNumber_47 : decode cX6_takeNumber 47 = .ok (.bipush 48, 2) := by decide +kernel
theorem dX6_takeNumber_49 : decode cX6_takeNumber 49 = .ok (.isub, 1) := by decide +kernel
theorem dX6_takeNumber_50 : decode cX6_takeNumber 50 = .ok (.istore_n 2, 1) := by decide +kernel
theorem dX6_takeNumber_51 : decode cX6_takeNumber 51 = .ok (.iinc 3 1, 3) := by decide +kernel
theorem dX6_takeNumber_54 : decode cX6_takeNumber 54 = .ok (.goto (-22), 3) := by decide +kernel
theorem dX6_takeNumber_57 : decode cX6_takeNumber 57 = .ok (.aload_n 0, 1) := by decide +kernel
theorem dX6_takeNumber_58 : decode cX6_takeNumber 58 = .ok (.iload_n 1, 1) := by decide +kernel
theorem dX6_takeNumber_59 : decode cX6_takeNumber 59 = .ok (.invokevirtual 22, 3) := by decide +kernel
theorem dX6_takeNumber_62 : decode cX6_takeNumber 62 = .ok (.iload_n 2, 1) := by decide +kernel
theorem dX6_takeNumber_63 : decode cX6_takeNumber 63 = .ok (.ireturn, 1) := by decide +kernel
theorem dX6_moveTo_0 : decode cX6_moveTo 0 = .ok (.aload_n 0, 1) := by decide +kernel
theorem dX6_moveTo_1 : decode cX6_moveTo 1 = .ok (.iload_n 1, 1) := by decide +kernel
theorem dX6_moveTo_2 : decode cX6_moveTo 2 = .ok (.putfield 19, 3) := by decide +kernel
theorem dX6_moveTo_5 : decode cX6_moveTo 5 = .ok (.aload_n 0, 1) := by decide +kernel
theorem dX6_moveTo_6 : decode cX6_moveTo 6 = .ok (.getfield 19, 3) := by decide +kernel
theorem dX6_moveTo_9 : decode cX6_moveTo 9 = .ok (.aload_n 0, 1) := by decide +kernel
theorem dX6_moveTo_10 : decode cX6_moveTo 10 = .ok (.getfield 15, 3) := by decide +kernel
theorem dX6_moveTo_13 : decode cX6_moveTo 13 = .ok (.if_icmp .ge 29, 3) := by decide +kernel
theorem dX6_moveTo_16 : decode cX6_moveTo 16 = .ok (.aload_n 0, 1) := by decide +kernel
theorem dX6_moveTo_17 : decode cX6_moveTo 17 = .ok (.aload_n 0, 1) := by decide +kernel
theorem dX6_moveTo_18 : decode cX6_moveTo 18 = .ok (.getfield 19, 3) := by decide +kernel
theorem dX6_moveTo_21 : decode cX6_moveTo 21 = .ok (.invokevirtual 26, 3) := by decide +kernel
theorem dX6_moveTo_24 : decode cX6_moveTo 24 = .ok (.bipush 32, 2) := by decide +kernel
theorem dX6_moveTo_26 : decode cX6_moveTo 26 = .ok (.if_icmp .ne 16, 3) := by decide +kernel
theorem dX6_moveTo_29 : decode cX6_moveTo 29 = .ok (.aload_n 0, 1) := by decide +kernel
theorem dX6_moveTo_30 : decode cX6_moveTo 30 = .ok (.dup, 1) := by decide +kernel
theorem dX6_moveTo_31 : decode cX6_moveTo 31 = .ok (.getfield 19, 3) := by decide +kernel
theorem dX6_moveTo_34 : decode cX6_moveTo 34 = .ok (.iconst 1, 1) := by decide +kernel
theorem dX6_moveTo_35 : decode cX6_moveTo 35 = .ok (.iadd, 1) := by decide +kernel
theorem dX6_moveTo_36 : decode cX6_moveTo 36 = .ok (.putfield 19, 3) := by decide +kernel
theorem dX6_moveTo_39 : decode cX6_moveTo 39 = .ok (.goto (-34), 3) := by decide +kernel
theorem dX6_moveTo_42 : decode cX6_moveTo 42 = .ok (.return_, 1) := by decide +kernel
theorem dX6_endOfRun_0 : decode cX6_endOfRun 0 = .ok (.aload_n 0, 1) := by decide +kernel
theorem dX6_endOfRun_1 : decode cX6_endOfRun 1 = .ok (.getfield 19, 3) := by decide +kernel
theorem dX6_endOfRun_4 : decode cX6_endOfRun 4 = .ok (.istore_n 3, 1) := by decide +kernel
theorem dX6_endOfRun_5 : decode cX6_endOfRun 5 = .ok (.iload_n 3, 1) := by decide +kernel
theorem dX6_endOfRun_6 : decode cX6_endOfRun 6 = .ok (.aload_n 0, 1) := by decide +kernel
theorem dX6_endOfRun_7 : decode cX6_endOfRun 7 = .ok (.getfield 15, 3) := by decide +kernel
theorem dX6_endOfRun_10 : decode cX6_endOfRun 10 = .ok (.if_icmp .ge 27, 3) := by decide +kernel
theorem dX6_endOfRun_13 : decode cX6_endOfRun 13 = .ok (.aload_n 0, 1) := by decide +kernel
theorem dX6_endOfRun_14 : decode cX6_endOfRun 14 = .ok (.iload_n 3, 1) := by decide +kernel
theorem dX6_endOfRun_15 : decode cX6_endOfRun 15 = .ok (.invokevirtual 26, 3) := by decide +kernel
theorem dX6_endOfRun_18 : decode cX6_endOfRun 18 = .ok (.iload_n 1, 1) := by decide +kernel
theorem dX6_endOfRun_19 : decode cX6_endOfRun 19 = .ok (.if_icmp .lt 18, 3) := by decide +kernel
theorem dX6_endOfRun_22 : decode cX6_endOfRun 22 = .ok (.aload_n 0, 1) := by decide +kernel
theorem dX6_endOfRun_23 : decode cX6_endOfRun 23 = .ok (.iload_n 3, 1) := by decide +kernel
theorem dX6_endOfRun_24 : decode cX6_endOfRun 24 = .ok (.invokevirtual 26, 3) := by decide +kernel
theorem dX6_endOfRun_27 : decode cX6_endOfRun 27 = .ok (.iload_n 2, 1) := by decide +kernel
theorem dX6_endOfRun_28 : decode cX6_endOfRun 28 = .ok (.if_icmp .gt 9, 3) := by decide +kernel
theorem dX6_endOfRun_31 : decode cX6_endOfRun 31 = .ok (.iinc 3 1, 3) := by decide +kernel
theorem dX6_endOfRun_34 : decode cX6_endOfRun 34 = .ok (.goto (-29), 3) := by decide +kernel
theorem dX6_endOfRun_37 : decode cX6_endOfRun 37 = .ok (.iload_n 3, 1) := by decide +kernel
theorem dX6_endOfRun_38 : decode cX6_endOfRun 38 = .ok (.ireturn, 1) := by decide +kernel
theorem dX6_byteAt_0 : decode cX6_byteAt 0 = .ok (.iload_n 1, 1) := by decide +kernel
theorem dX6_byteAt_1 : decode cX6_byteAt 1 = .ok (.ifCond .lt 29, 3) := by decide +kernel
theorem dX6_byteAt_4 : decode cX6_byteAt 4 = .ok (.iload_n 1, 1) := by decide +kernel
theorem dX6_byteAt_5 : decode cX6_byteAt 5 = .ok (.aload_n 0, 1) := by decide +kernel
theorem dX6_byteAt_6 : decode cX6_byteAt 6 = .ok (.getfield 15, 3) := by decide +kernel
theorem dX6_byteAt_9 : decode cX6_byteAt 9 = .ok (.if_icmp .ge 21, 3) := by decide +kernel
theorem dX6_byteAt_12 : decode cX6_byteAt 12 = .ok (.iload_n 1, 1) := by decide +kernel
theorem dX6_byteAt_13 : decode cX6_byteAt 13 = .ok (.aload_n 0, 1) := by decide +kernel
theorem dX6_byteAt_14 : decode cX6_byteAt 14 = .ok (.getfield 9, 3) := by decide +kernel
theorem dX6_byteAt_17 : decode cX6_byteAt 17 = .ok (.arraylength, 1) := by decide +kernel
theorem dX6_byteAt_18 : decode cX6_byteAt 18 = .ok (.if_icmp .ge 12, 3) := by decide +kernel
theorem dX6_byteAt_21 : decode cX6_byteAt 21 = .ok (.aload_n 0, 1) := by decide +kernel
theorem dX6_byteAt_22 : decode cX6_byteAt 22 = .ok (.getfield 9, 3) := by decide +kernel
theorem dX6_byteAt_25 : decode cX6_byteAt 25 = .ok (.iload_n 1, 1) := by decide +kernel
theorem dX6_byteAt_26 : decode cX6_byteAt 26 = .ok (.iaload, 1) := by decide +kernel
theorem dX6_byteAt_27 : decode cX6_byteAt 27 = .ok (.goto 4, 3) := by decide +kernel
theorem dX6_byteAt_30 : decode cX6_byteAt 30 = .ok (.iconst (-1), 1) := by decide +kernel
theorem dX6_byteAt_31 : decode cX6_byteAt 31 = .ok (.ireturn, 1) := by decide +kernel
theorem dX7_init_0 : decode cX7_init 0 = .ok (.aload_n 0, 1) := by decide +kernel
theorem dX7_init_1 : decode cX7_init 1 = .ok (.invokespecial 3, 3) := by decide +kernel
theorem dX7_init_4 : decode cX7_init 4 = .ok (.aload_n 0, 1) := by decide +kernel
theorem dX7_init_5 : decode cX7_init 5 = .ok (.iload_n 1, 1) := by decide +kernel
theorem dX7_init_6 : decode cX7_init 6 = .ok (.putfield 9, 3) := by decide +kernel
theorem dX7_init_9 : decode cX7_init 9 = .ok (.aload_n 0, 1) := by decide +kernel
theorem dX7_init_10 : decode cX7_init 10 = .ok (.iload_n 2, 1) := by decide +kernel
theorem dX7_init_11 : decode cX7_init 11 = .ok (.putfield 15, 3) := by decide +kernel
theorem dX7_init_14 : decode cX7_init 14 = .ok (.aload_n 0, 1) := by decide +kernel
theorem dX7_init_15 : decode cX7_init 15 = .ok (.iload_n 3, 1) := by decide +kernel
theorem dX7_init_16 : decode cX7_init 16 = .ok (.putfield 18, 3) := by decide +kernel
theorem dX7_init_19 : decode cX7_init 19 = .ok (.aload_n 0, 1) := by decide +kernel
theorem dX7_init_20 : decode cX7_init 20 = .ok (.iload 4, 2) := by decide +kernel
theorem dX7_init_22 : decode cX7_init 22 = .ok (.putfield 21, 3) := by decide +kernel
theorem dX7_init_25 : decode cX7_init 25 = .ok (.aload_n 0, 1) := by decide +kernel
theorem dX7_init_26 : decode cX7_init 26 = .ok (.iload 5, 2) := by decide +kernel
theorem dX7_init_28 : decode cX7_init 28 = .ok (.putfield 24, 3) := by decide +kernel
theorem dX7_init_31 : decode cX7_init 31 = .ok (.return_, 1) := by decide +kernel
theorem dX7_isFor_0 : decode cX7_isFor 0 = .ok (.aload_n 1, 1) := by decide +kernel
theorem dX7_isFor_1 : decode cX7_isFor 1 = .ok (.getfield 27, 3) := by decide +kernel
theorem dX7_isFor_4 : decode cX7_isFor 4 = .ok (.aload_n 0, 1) := by decide +kernel
theorem dX7_isFor_5 : decode cX7_isFor 5 = .ok (.getfield 15, 3) := by decide +kernel
theorem dX7_isFor_8 : decode cX7_isFor 8 = .ok (.if_icmp .ne 18, 3) := by decide +kernel
theorem dX7_isFor_11 : decode cX7_isFor 11 = .ok (.aload_n 1, 1) := by decide +kernel
theorem dX7_isFor_12 : decode cX7_isFor 12 = .ok (.getfield 30, 3) := by decide +kernel
theorem dX7_isFor_15 : decode cX7_isFor 15 = .ok (.aload_n 0, 1) := by decide +kernel
theorem dX7_isFor_16 : decode cX7_isFor 16 = .ok (.getfield 24, 3) := by decide +kernel
theorem dX7_isFor_19 : decode cX7_isFor 19 = .ok (.if_icmp .ge 7, 3) := by decide +kernel
theorem dX7_isFor_22 : decode cX7_isFor 22 = .ok (.iconst 1, 1) := by decide +kernel
theorem dX7_isFor_23 : decode cX7_isFor 23 = .ok (.goto 4, 3) := by decide +kernel
theorem dX7_isFor_26 : decode cX7_isFor 26 = .ok (.iconst 0, 1) := by decide +kernel
theorem dX7_isFor_27 : decode cX7_isFor 27 = .ok (.ireturn, 1) := by decide +kernel
theorem dX7_firstHour_0 : decode cX7_firstHour 0 = .ok (.aload_n 0, 1) := by decide +kernel
theorem dX7_firstHour_1 : decode cX7_firstHour 1 = .ok (.getfield 9, 3) := by decide +kernel
theorem dX7_firstHour_4 : decode cX7_firstHour 4 = .ok (.aload_n 1, 1) := by decide +kernel
theorem dX7_firstHour_5 : decode cX7_firstHour 5 = .ok (.getfield 33, 3) := by decide +kernel
theorem dX7_firstHour_8 : decode cX7_firstHour 8 = .ok (.iadd, 1) := by decide +kernel
theorem dX7_firstHour_9 : decode cX7_firstHour 9 = .ok (.ireturn, 1) := by decide +kernel
theorem dX7_lastHour_0 : decode cX7_lastHour 0 = .ok (.aload_n 0, 1) := by decide +kernel
theorem dX7_lastHour_1 : decode cX7_lastHour 1 = .ok (.aload_n 1, 1) := by decide +kernel
theorem dX7_lastHour_2 : decode cX7_lastHour 2 = .ok (.invokevirtual 36, 3) := by decide +kernel
theorem dX7_lastHour_5 : decode cX7_lastHour 5 = .ok (.bipush 24, 2) := by decide +kernel
theorem dX7_lastHour_7 : decode cX7_lastHour 7 = .ok (.iadd, 1) := by decide +kernel
theorem dX7_lastHour_8 : decode cX7_lastHour 8 = .ok (.iconst 1, 1) := by decide +kernel
theorem dX7_lastHour_9 : decode cX7_lastHour 9 = .ok (.isub, 1) := by decide +kernel
theorem dX7_lastHour_10 : decode cX7_lastHour 10 = .ok (.ireturn, 1) := by decide +kernel
theorem dX8_init_0 : decode cX8_init 0 = .ok (.aload_n 0, 1) := by decide +kernel
theorem dX8_init_1 : decode cX8_init 1 = .ok (.invokespecial 1, 3) := by decide +kernel
theorem dX8_init_4 : decode cX8_init 4 = .ok (.aload_n 0, 1) := by decide +kernel
theorem dX8_init_5 : decode cX8_init 5 = .ok (.new 7, 3) := by decide +kernel
theorem dX8_init_8 : decode cX8_init 8 = .ok (.dup, 1) := by decide +kernel
theorem dX8_init_9 : decode cX8_init 9 = .ok (.invokespecial 9, 3) := by decide +kernel
theorem dX8_init_12 : decode cX8_init 12 = .ok (.putfield 10, 3) := by decide +kernel
theorem dX8_init_15 : decode cX8_init 15 = .ok (.aload_n 0, 1) := by decide +kernel
theorem dX8_init_16 : decode cX8_init 16 = .ok (.new 16, 3) := by decide +kernel
theorem dX8_init_19 : decode cX8_init 19 = .ok (.dup, 1) := by decide +kernel
theorem dX8_init_20 : decode cX8_init 20 = .ok (.invokespecial 18, 3) := by decide +kernel
theorem dX8_init_23 : decode cX8_init 23 = .ok (.putfield 19, 3) := by decide +kernel
theorem dX8_init_26 : decode cX8_init 26 = .ok (.aload_n 0, 1) := by decide +kernel
theorem dX8_init_27 : decode cX8_init 27 = .ok (.new 16, 3) := by decide +kernel
theorem dX8_init_30 : decode cX8_init 30 = .ok (.dup, 1) := by decide +kernel
theorem dX8_init_31 : decode cX8_init 31 = .ok (.invokespecial 18, 3) := by decide +kernel
theorem dX8_init_34 : decode cX8_init 34 = .ok (.putfield 23, 3) := by decide +kernel
theorem dX8_init_37 : decode cX8_init 37 = .ok (.aload_n 0, 1) := by decide +kernel
theorem dX8_init_38 : decode cX8_init 38 = .ok (.new 16, 3) := by decide +kernel
theorem dX8_init_41 : decode cX8_init 41 = .ok (.dup, 1) := by decide +kernel
theorem dX8_init_42 : decode cX8_init 42 = .ok (.invokespecial 18, 3) := by decide +kernel
theorem dX8_init_45 : decode cX8_init 45 = .ok (.putfield 26, 3) := by decide +kernel
theorem dX8_init_48 : decode cX8_init 48 = .ok (.aload_n 0, 1) := by decide +kernel
theorem dX8_init_49 : decode cX8_init 49 = .ok (.new 16, 3) := by decide +kernel
theorem dX8_init_52 : decode cX8_init 52 = .ok (.dup, 1) := by decide +kernel
theorem dX8_init_53 : decode cX8_init 53 = .ok (.invokespecial 18, 3) := by decide +kernel
theorem dX8_init_56 : decode cX8_init 56 = .ok (.putfield 29, 3) := by decide +kernel
theorem dX8_init_59 : decode cX8_init 59 = .ok (.aload_n 0, 1) := by decide +kernel
theorem dX8_init_60 : decode cX8_init 60 = .ok (.new 32, 3) := by decide +kernel
theorem dX8_init_63 : decode cX8_init 63 = .ok (.dup, 1) := by decide +kernel
theorem dX8_init_64 : decode cX8_init 64 = .ok (.invokespecial 34, 3) := by decide +kernel
theorem dX8_init_67 : decode cX8_init 67 = .ok (.putfield 35, 3) := by decide +kernel
theorem dX8_init_70 : decode cX8_init 70 = .ok (.aload_n 0, 1) := by decide +kernel
theorem dX8_init_71 : decode cX8_init 71 = .ok (.new 39, 3) := by decide +kernel
theorem dX8_init_74 : decode cX8_init 74 = .ok (.dup, 1) := by decide +kernel
theorem dX8_init_75 : decode cX8_init 75 = .ok (.invokespecial 41, 3) := by decide +kernel
theorem dX8_init_78 : decode cX8_init 78 = .ok (.putfield 42, 3) := by decide +kernel
theorem dX8_init_81 : decode cX8_init 81 = .ok (.aload_n 0, 1) := by decide +kernel
theorem dX8_init_82 : decode cX8_init 82 = .ok (.new 39, 3) := by decide +kernel
theorem dX8_init_85 : decode cX8_init 85 = .ok (.dup, 1) := by decide +kernel
theorem dX8_init_86 : decode cX8_init 86 = .ok (.invokespecial 41, 3) := by decide +kernel
theorem dX8_init_89 : decode cX8_init 89 = .ok (.putfield 46, 3) := by decide +kernel
theorem dX8_init_92 : decode cX8_init 92 = .ok (.aload_n 0, 1) := by decide +kernel
theorem dX8_init_93 : decode cX8_init 93 = .ok (.iconst (-1), 1) := by decide +kernel
theorem dX8_init_94 : decode cX8_init 94 = .ok (.putfield 49, 3) := by decide +kernel
theorem dX8_init_97 : decode cX8_init 97 = .ok (.aload_n 0, 1) := by decide +kernel
theorem dX8_init_98 : decode cX8_init 98 = .ok (.iconst 0, 1) := by decide +kernel
theorem dX8_init_99 : decode cX8_init 99 = .ok (.putfield 53, 3) := by decide +kernel
theorem dX8_init_102 : decode cX8_init 102 = .ok (.aload_n 0, 1) := by decide +kernel
theorem dX8_init_103 : decode cX8_init 103 = .ok (.iconst 0, 1) := by decide +kernel
theorem dX8_init_104 : decode cX8_init 104 = .ok (.putfield 56, 3) := by decide +kernel
theorem dX8_init_107 : decode cX8_init 107 = .ok (.return_, 1) := by decide +kernel
theorem dX8_feed_0 : decode cX8_feed 0 = .ok (.aload_n 0, 1) := by decide +kernel
theorem dX8_feed_1 : decode cX8_feed 1 = .ok (.getfield 10, 3) := by decide +kernel
theorem dX8_feed_4 : decode cX8_feed 4 = .ok (.bipush 20, 2) := by decide +kernel
theorem dX8_feed_6 : decode cX8_feed 6 = .ok (.invokevirtual 59, 3) := by decide +kernel
theorem dX8_feed_9 : decode cX8_feed 9 = .ok (.ifCond .ne 5, 3) := by decide +kernel
theorem dX8_feed_12 : decode cX8_feed 12 = .ok (.iconst (-1), 1) := by decide +kernel
theorem dX8_feed_13 : decode cX8_feed 13 = .ok (.ireturn, 1) := by decide +kernel
theorem dX8_feed_14 : decode cX8_feed 14 = .ok (.aload_n 0, 1) := by decide +kernel
theorem dX8_feed_15 : decode cX8_feed 15 = .ok (.getfield 10, 3) := by decide +kernel
theorem dX8_feed_18 : decode cX8_feed 18 = .ok (.iload_n 1, 1) := by decide +kernel
theorem dX8_feed_19 : decode cX8_feed 19 = .ok (.invokevirtual 63, 3) := by decide +kernel
theorem dX8_feed_22 : decode cX8_feed 22 = .ok (.aload_n 0, 1) := by decide +kernel
theorem dX8_feed_23 : decode cX8_feed 23 = .ok (.getfield 10, 3) := by decide +kernel
theorem dX8_feed_26 : decode cX8_feed 26 = .ok (.iload_n 2, 1) := by decide +kernel
theorem dX8_feed_27 : decode cX8_feed 27 = .ok (.invokevirtual 63, 3) := by decide +kernel
theorem dX8_feed_30 : decode cX8_feed 30 = .ok (.aload_n 0, 1) := by decide +kernel
theorem dX8_feed_31 : decode cX8_feed 31 = .ok (.getfield 10, 3) := by decide +kernel
theorem dX8_feed_34 : decode cX8_feed 34 = .ok (.iload_n 3, 1) := by decide +kernel
theorem dX8_feed_35 : decode cX8_feed 35 = .ok (.invokevirtual 63, 3) := by decide +kernel
theorem dX8_feed_38 : decode cX8_feed 38 = .ok (.aload_n 0, 1) := by decide +kernel
theorem dX8_feed_39 : decode cX8_feed 39 = .ok (.getfield 10, 3) := by decide +kernel
theorem dX8_feed_42 : decode cX8_feed 42 = .ok (.iload 4, 2) := by decide +kernel
theorem dX8_feed_44 : decode cX8_feed 44 = .ok (.invokevirtual 63, 3) := by decide +kernel
theorem dX8_feed_47 : decode cX8_feed 47 = .ok (.aload_n 0, 1) := by decide +kernel
theorem dX8_feed_48 : decode cX8_feed 48 = .ok (.getfield 10, 3) := by decide +kernel
theorem dX8_feed_51 : decode cX8_feed 51 = .ok (.iload 5, 2) := by decide +kernel
theorem dX8_feed_53 : decode cX8_feed 53 = .ok (.invokevirtual 63, 3) := by decide +kernel
theorem dX8_feed_56 : decode cX8_feed 56 = .ok (.aload_n 0, 1) := by decide +kernel
theorem dX8_feed_57 : decode cX8_feed 57 = .ok (.getfield 10, 3) := by decide +kernel
theorem dX8_feed_60 : decode cX8_feed 60 = .ok (.invokevirtual 67, 3) := by decide +kernel
theorem dX8_feed_63 : decode cX8_feed 63 = .ok (.ireturn, 1) := by decide +kernel
theorem dX8_end_0 : decode cX8_end 0 = .ok (.aload_n 0, 1) := by decide +kernel
theorem dX8_end_1 : decode cX8_end 1 = .ok (.getfield 10, 3) := by decide +kernel
theorem dX8_end_4 : decode cX8_end 4 = .ok (.iload_n 1, 1) := by decide +kernel
theorem dX8_end_5 : decode cX8_end 5 = .ok (.invokevirtual 71, 3) := by decide +kernel
theorem dX8_end_8 : decode cX8_end 8 = .ok (.ireturn, 1) := by decide +kernel
theorem dX8_port_0 : decode cX8_port 0 = .ok (.iload_n 1, 1) := by decide +kernel
theorem dX8_port_1 : decode cX8_port 1 = .ok (.iload_n 2, 1) := by decide +kernel
theorem dX8_port_2 : decode cX8_port 2 = .ok (.invokestatic 74, 3) := by decide +kernel
theorem dX8_port_5 : decode cX8_port 5 = .ok (.ifCond .eq 23, 3) := by decide +kernel
theorem dX8_port_8 : decode cX8_port 8 = .ok (.iload_n 3, 1) := by decide +kernel
theorem dX8_port_9 : decode cX8_port 9 = .ok (.iconst 0, 1) := by decide +kernel
theorem dX8_port_10 : decode cX8_port 10 = .ok (.iconst 3, 1) := by decide +kernel
theorem dX8_port_11 : decode cX8_port 11 = .ok (.invokestatic 78, 3) := by decide +kernel
theorem dX8_port_14 : decode cX8_port 14 = .ok (.ifCond .eq 14, 3) := by decide +kernel
theorem dX8_port_17 : decode cX8_port 17 = .ok (.iload 4, 2) := by decide +kernel
theorem dX8_port_19 : decode cX8_port 19 = .ok (.iconst 0, 1) := by decide +kernel
theorem dX8_port_20 : decode cX8_port 20 = .ok (.bipush 12, 2) := by decide +kernel
theorem dX8_port_22 : decode cX8_port 22 = .ok (.invokestatic 78, 3) := by decide +kernel
theorem dX8_port_25 : decode cX8_port 25 = .ok (.ifCond .ne 13, 3) := by decide +kernel
theorem dX8_port_28 : decode cX8_port 28 = .ok (.new 82, 3) := by decide +kernel
theorem dX8_port_31 : decode cX8_port 31 = .ok (.dup, 1) := by decide +kernel
theorem dX8_port_32 : decode cX8_port 32 = .ok (.ldc 84, 2) := by decide +kernel
theorem dX8_port_34 : decode cX8_port 34 = .ok (.invokespecial 86, 3) := by decide +kernel
theorem dX8_port_37 : decode cX8_port 37 = .ok (.athrow, 1) := by decide +kernel
theorem dX8_port_38 : decode cX8_port 38 = .ok (.aload_n 0, 1) := by decide +kernel
theorem dX8_port_39 : decode cX8_port 39 = .ok (.getfield 19, 3) := by decide +kernel
theorem dX8_port_42 : decode cX8_port 42 = .ok (.invokevirtual 89, 3) := by decide +kernel
theorem dX8_port_45 : decode cX8_port 45 = .ok (.istore 5, 2) := by decide +kernel
theorem dX8_port_47 : decode cX8_port 47 = .ok (.iload 5, 2) := by decide +kernel
theorem dX8_port_49 : decode cX8_port 49 = .ok (.bipush 12, 2) := by decide +kernel
theorem dX8_port_51 : decode cX8_port 51 = .ok (.if_icmp .lt 13, 3) := by decide +kernel
theorem dX8_port_54 : decode cX8_port 54 = .ok (.new 92, 3) := by decide +kernel
theorem dX8_port_57 : decode cX8_port 57 = .ok (.dup, 1) := by decide +kernel
theorem dX8_port_58 : decode cX8_port 58 = .ok (.ldc 94, 2) := by decide +kernel
theorem dX8_port_60 : decode cX8_port 60 = .ok (.invokespecial 96, 3) := by decide +kernel
theorem dX8_port_63 : decode cX8_port 63 = .ok (.athrow, 1) := by decide +kernel
theorem dX8_port_64 : decode cX8_port 64 = .ok (.aload_n 0, 1) := by decide +kernel
theorem dX8_port_65 : decode cX8_port 65 = .ok (.getfield 19, 3) := by decide +kernel
theorem dX8_port_68 : decode cX8_port 68 = .ok (.new 97, 3) := by decide +kernel
theorem dX8_port_71 : decode cX8_port 71 = .ok (.dup, 1) := by decide +kernel
theorem dX8_port_72 : decode cX8_port 72 = .ok (.iload 5, 2) := by decide +kernel
theorem dX8_port_74 : decode cX8_port 74 = .ok (.iload_n 1, 1) := by decide +kernel
theorem dX8_port_75 : decode cX8_port 75 = .ok (.iload_n 2, 1) := by decide +kernel
theorem dX8_port_76 : decode cX8_port 76 = .ok (.iload_n 3, 1) := by decide +kernel
theorem dX8_port_77 : decode cX8_port 77 = .ok (.iload 4, 2) := by decide +kernel
theorem dX8_port_79 : decode cX8_port 79 = .ok (.invokespecial 99, 3) := by decide +kernel
theorem dX8_port_82 : decode cX8_port 82 = .ok (.invokevirtual 102, 3) := by decide +kernel
theorem dX8_port_85 : decode cX8_port 85 = .ok (.pop, 1) := by decide +kernel
theorem dX8_port_86 : decode cX8_port 86 = .ok (.iload 5, 2) := by decide +kernel
theorem dX8_port_88 : decode cX8_port 88 = .ok (.ireturn, 1) := by decide +kernel
theorem dX8_report_0 : decode cX8_report 0 = .ok (.aload_n 0, 1) := by decide +kernel
theorem dX8_report_1 : decode cX8_report 1 = .ok (.iload_n 1, 1) := by decide +kernel
theorem dX8_report_2 : decode cX8_report 2 = .ok (.invokevirtual 106, 3) := by decide +kernel
theorem dX8_report_5 : decode cX8_report 5 = .ok (.astore 5, 2) := by decide +kernel
theorem dX8_report_7 : decode cX8_report 7 = .ok (.aload_n 0, 1) := by decide +kernel
theorem dX8_report_8 : decode cX8_report 8 = .ok (.iload_n 2, 1) := by decide +kernel
theorem dX8_report_9 : decode cX8_report 9 = .ok (.invokevirtual 110, 3) := by decide +kernel
theorem dX8_report_12 : decode cX8_report 12 = .ok (.ifCond .eq 27, 3) := by decide +kernel
theorem dX8_report_15 : decode cX8_report 15 = .ok (.iload_n 3, 1) := by decide +kernel
theorem dX8_report_16 : decode cX8_report 16 = .ok (.sipush 9000, 3) := by decide +kernel
theorem dX8_report_19 : decode cX8_report 19 = .ok (.sipush 10500, 3) := by decide +kernel
theorem dX8_report_22 : decode cX8_report 22 = .ok (.invokestatic 78, 3) := by decide +kernel
theorem dX8_report_25 : decode cX8_report 25 = .ok (.ifCond .eq 14, 3) := by decide +kernel
theorem dX8_report_28 : decode cX8_report 28 = .ok (.iload 4, 2) := by decide +kernel
theorem dX8_report_30 : decode cX8_report 30 = .ok (.iconst 0, 1) := by decide +kernel
theorem dX8_report_31 : decode cX8_report 31 = .ok (.bipush 12, 2) := by decide +kernel
theorem dX8_report_33 : decode cX8_report 33 = .ok (.invokestatic 78, 3) := by decide +kernel
theorem dX8_report_36 : decode cX8_report 36 = .ok (.ifCond .ne 13, 3) := by decide +kernel
theorem dX8_report_39 : decode cX8_report 39 = .ok (.new 82, 3) := by decide +kernel
theorem dX8_report_42 : decode cX8_report 42 = .ok (.dup, 1) := by decide +kernel
theorem dX8_report_43 : decode cX8_report 43 = .ok (.ldc 113, 2) := by decide +kernel
theorem dX8_report_45 : decode cX8_report 45 = .ok (.invokespecial 86, 3) := by decide +kernel
theorem dX8_report_48 : decode cX8_report 48 = .ok (.athrow, 1) := by decide +kernel
theorem dX8_report_49 : decode cX8_report 49 = .ok (.aload_n 0, 1) := by decide +kernel
theorem dX8_report_50 : decode cX8_report 50 = .ok (.getfield 53, 3) := by decide +kernel
theorem dX8_report_53 : decode cX8_report 53 = .ok (.istore 6, 2) := by decide +kernel
theorem dX8_report_55 : decode cX8_report 55 = .ok (.iload 6, 2) := by decide +kernel
theorem dX8_report_57 : decode cX8_report 57 = .ok (.sipush 300, 3) := by decide +kernel
theorem dX8_report_60 : decode cX8_report 60 = .ok (.if_icmp .lt 13, 3) := by decide +kernel
theorem dX8_report_63 : decode cX8_report 63 = .ok (.new 92, 3) := by decide +kernel
theorem dX8_report_66 : decode cX8_report 66 = .ok (.dup, 1) := by decide +kernel
theorem dX8_report_67 : decode cX8_report 67 = .ok (.ldc 115, 2) := by decide +kernel
theorem dX8_report_69 : decode cX8_report 69 = .ok (.invokespecial 96, 3) := by decide +kernel
theorem dX8_report_72 : decode cX8_report 72 = .ok (.athrow, 1) := by decide +kernel
theorem dX8_report_73 : decode cX8_report 73 = .ok (.aload 5, 2) := by decide +kernel
theorem dX8_report_75 : decode cX8_report 75 = .ok (.getfield 117, 3) := by decide +kernel
theorem dX8_report_78 : decode cX8_report 78 = .ok (.astore 7, 2) := by decide +kernel
theorem dX8_report_80 : decode cX8_report 80 = .ok (.aload 5, 2) := by decide +kernel
theorem dX8_report_82 : decode cX8_report 82 = .ok (.new 121, 3) := by decide +kernel
theorem dX8_report_85 : decode cX8_report 85 = .ok (.dup, 1) := by decide +kernel
theorem dX8_report_86 : decode cX8_report 86 = .ok (.iload 6, 2) := by decide +kernel
theorem dX8_report_88 : decode cX8_report 88 = .ok (.iload_n 2, 1) := by decide +kernel
theorem dX8_report_89 : decode cX8_report 89 = .ok (.iload_n 3, 1) := by decide +kernel
theorem dX8_report_90 : decode cX8_report 90 = .ok (.iload 4, 2) := by decide +kernel
theorem dX8_report_92 : decode cX8_report 92 = .ok (.aload_n 0, 1) := by decide +kernel
theorem dX8_report_93 : decode cX8_report 93 = .ok (.getfield 56, 3) := by decide +kernel
theorem dX8_report_96 : decode cX8_report 96 = .ok (.aload 5, 2) := by decide +kernel
theorem dX8_report_98 : decode cX8_report 98 = .ok (.getfield 123, 3) := by decide +kernel
theorem dX8_report_101 : decode cX8_report 101 = .ok (.iadd, 1) := by decide +kernel
theorem dX8_report_102 : decode cX8_report 102 = .ok (.aload 7, 2) := by decide +kernel
theorem dX8_report_104 : decode cX8_report 104 = .ok (.invokespecial 126, 3) := by decide +kernel
theorem dX8_report_107 : decode cX8_report 107 = .ok (.putfield 117, 3) := by decide +kernel
theorem dX8_report_110 : decode cX8_report 110 = .ok (.aload_n 0, 1) := by decide +kernel
theorem dX8_report_111 : decode cX8_report 111 = .ok (.iload 6, 2) := by decide +kernel
theorem dX8_report_113 : decode cX8_report 113 = .ok (.iconst 1, 1) := by decide +kernel
theorem dX8_report_114 : decode cX8_report 114 = .ok (.iadd, 1) := by decide +kernel
theorem dX8_report_115 : decode cX8_report 115 = .ok (.putfield 53, 3) := by decide +kernel
theorem dX8_report_118 : decode cX8_report 118 = .ok (.iload 6, 2) := by decide +kernel
theorem dX8_report_120 : decode cX8_report 120 = .ok (.ireturn, 1) := by decide +kernel
theorem dX8_counts_0 : decode cX8_counts 0 = .ok (.aload_n 0, 1) := by decide +kernel
theorem dX8_counts_1 : decode cX8_counts 1 = .ok (.iload_n 1, 1) := by decide +kernel
theorem dX8_counts_2 : decode cX8_counts 2 = .ok (.invokevirtual 106, 3) := by decide +kernel
theorem dX8_counts_5 : decode cX8_counts 5 = .ok (.iload_n 2, 1) := by decide +kernel
theorem dX8_counts_6 : decode cX8_counts 6 = .ok (.iload_n 3, 1) := by decide +kernel
theorem dX8_counts_7 : decode cX8_counts 7 = .ok (.invokevirtual 129, 3) := by decide +kernel
theorem dX8_counts_10 : decode cX8_counts 10 = .ok (.astore 4, 2) := by decide +kernel
theorem dX8_counts_12 : decode cX8_counts 12 = .ok (.aload 4, 2) := by decide +kernel
theorem dX8_counts_14 : decode cX8_counts 14 = .ok (.ifnonnull 7, 3) := by decide +kernel
theorem dX8_counts_17 : decode cX8_counts 17 = .ok (.iconst (-1), 1) := by decide +kernel
theorem dX8_counts_18 : decode cX8_counts 18 = .ok (.goto 8, 3) := by decide +kernel
theorem dX8_counts_21 : decode cX8_counts 21 = .ok (.aload 4, 2) := by decide +kernel
theorem dX8_counts_23 : decode cX8_counts 23 = .ok (.getfield 133, 3) := by decide +kernel
theorem dX8_counts_26 : decode cX8_counts 26 = .ok (.ireturn, 1) := by decide +kernel
theorem dX8_field_0 : decode cX8_field 0 = .ok (.iload_n 1, 1) := by decide +kernel
theorem dX8_field_1 : decode cX8_field 1 = .ok (.iload_n 2, 1) := by decide +kernel
theorem dX8_field_2 : decode cX8_field 2 = .ok (.invokestatic 74, 3) := by decide +kernel
theorem dX8_field_5 : decode cX8_field 5 = .ok (.ifCond .ne 13, 3) := by decide +kernel
theorem dX8_field_8 : decode cX8_field 8 = .ok (.new 82, 3) := by decide +kernel
theorem dX8_field_11 : decode cX8_field 11 = .ok (.dup, 1) := by decide +kernel
theorem dX8_field_12 : decode cX8_field 12 = .ok (.ldc 136, 2) := by decide +kernel
theorem dX8_field_14 : decode cX8_field 14 = .ok (.invokespecial 86, 3) := by decide +kernel
theorem dX8_field_17 : decode cX8_field 17 = .ok (.athrow, 1) := by decide +kernel
theorem dX8_field_18 : decode cX8_field 18 = .ok (.aload_n 0, 1) := by decide +kernel
theorem dX8_field_19 : decode cX8_field 19 = .ok (.iload_n 1, 1) := by decide +kernel
theorem dX8_field_20 : decode cX8_field 20 = .ok (.iload_n 2, 1) := by decide +kernel
theorem dX8_field_21 : decode cX8_field 21 = .ok (.iload_n 3, 1) := by decide +kernel
theorem dX8_field_22 : decode cX8_field 22 = .ok (.iload 4, 2) := by decide +kernel
theorem dX8_field_24 : decode cX8_field 24 = .ok (.invokevirtual 138, 3) := by decide +kernel
theorem dX8_field_27 : decode cX8_field 27 = .ok (.ireturn, 1) := by decide +kernel
theorem dX8_rules_0 : decode cX8_rules 0 = .ok (.aload_n 0, 1) := by decide +kernel
theorem dX8_rules_1 : decode cX8_rules 1 = .ok (.aload_n 0, 1) := by decide +kernel
theorem dX8_rules_2 : decode cX8_rules 2 = .ok (.getfield 46, 3) := by decide +kernel
theorem dX8_rules_5 : decode cX8_rules 5 = .ok (.aload_n 0, 1) := by decide +kernel
theorem dX8_rules_6 : decode cX8_rules 6 = .ok (.getfield 10, 3) := by decide +kernel
theorem dX8_rules_9 : decode cX8_rules 9 = .ok (.invokevirtual 142, 3) := by decide +kernel
theorem dX8_rules_12 : decode cX8_rules 12 = .ok (.putfield 49, 3) := by decide +kernel
theorem dX8_rules_15 : decode cX8_rules 15 = .ok (.aload_n 0, 1) := by decide +kernel
theorem dX8_rules_16 : decode cX8_rules 16 = .ok (.getfield 10, 3) := by decide +kernel
theorem dX8_rules_19 : decode cX8_rules 19 = .ok (.iconst 0, 1) := by decide +kernel
theorem dX8_rules_20 : decode cX8_rules 20 = .ok (.invokevirtual 71, 3) := by decide +kernel
theorem dX8_rules_23 : decode cX8_rules 23 = .ok (.pop, 1) := by decide +kernel
theorem dX8_rules_24 : decode cX8_rules 24 = .ok (.aload_n 0, 1) := by decide +kernel
theorem dX8_rules_25 : decode cX8_rules 25 = .ok (.getfield 49, 3) := by decide +kernel
theorem dX8_rules_28 : decode cX8_rules 28 = .ok (.iconst (-1), 1) := by decide +kernel
theorem dX8_rules_29 : decode cX8_rules 29 = .ok (.if_icmp .eq 13, 3) := by decide +kernel
theorem dX8_rules_32 : decode cX8_rules 32 = .ok (.new 82, 3) := by decide +kernel
theorem dX8_rules_35 : decode cX8_rules 35 = .ok (.dup, 1) := by decide +kernel
theorem dX8_rules_36 : decode cX8_rules 36 = .ok (.ldc 146, 2) := by decide +kernel
theorem dX8_rules_38 : decode cX8_rules 38 = .ok (.invokespecial 86, 3) := by decide +kernel
theorem dX8_rules_41 : decode cX8_rules 41 = .ok (.athrow, 1) := by decide +kernel
theorem dX8_rules_42 : decode cX8_rules 42 = .ok (.aload_n 0, 1) := by decide +kernel
theorem dX8_rules_43 : decode cX8_rules 43 = .ok (.getfield 42, 3) := by decide +kernel
theorem dX8_rules_46 : decode cX8_rules 46 = .ok (.astore_n 1, 1) := by decide +kernel
theorem dX8_rules_47 : decode cX8_rules 47 = .ok (.aload_n 0, 1) := by decide +kernel
theorem dX8_rules_48 : decode cX8_rules 48 = .ok (.aload_n 0, 1) := by decide +kernel
theorem dX8_rules_49 : decode cX8_rules 49 = .ok (.getfield 46, 3) := by decide +kernel
theorem dX8_rules_52 : decode cX8_rules 52 = .ok (.putfield 42, 3) := by decide +kernel
theorem dX8_rules_55 : decode cX8_rules 55 = .ok (.aload_n 0, 1) := by decide +kernel
theorem dX8_rules_56 : decode cX8_rules 56 = .ok (.aload_n 1, 1) := by decide +kernel
theorem dX8_rules_57 : decode cX8_rules 57 = .ok (.putfield 46, 3) := by decide +kernel
theorem dX8_rules_60 : decode cX8_rules 60 = .ok (.aload_n 0, 1) := by decide +kernel
theorem dX8_rules_61 : decode cX8_rules 61 = .ok (.getfield 42, 3) := by decide +kernel
theorem dX8_rules_64 : decode cX8_rules 64 = .ok (.invokevirtual 148, 3) := by decide +kernel
theorem dX8_rules_67 : decode cX8_rules 67 = .ok (.ireturn, 1) := by decide +kernel
theorem dX8_fault_0 : decode cX8_fault 0 = .ok (.aload_n 0, 1) := by decide +kernel
theorem dX8_fault_1 : decode cX8_fault 1 = .ok (.getfield 49, 3) := by decide +kernel
theorem dX8_fault_4 : decode cX8_fault 4 = .ok (.ireturn, 1) := by decide +kernel
theorem dX8_gale_0 : decode cX8_gale 0 = .ok (.aload_n 0, 1) := by decide +kernel
theorem dX8_gale_1 : decode cX8_gale 1 = .ok (.iload_n 1, 1) := by decide +kernel
theorem dX8_gale_2 : decode cX8_gale 2 = .ok (.invokevirtual 106, 3) := by decide +kernel
theorem dX8_gale_5 : decode cX8_gale 5 = .ok (.astore 5, 2) := by decide +kernel
theorem dX8_gale_7 : decode cX8_gale 7 = .ok (.aload_n 0, 1) := by decide +kernel
theorem dX8_gale_8 : decode cX8_gale 8 = .ok (.iload_n 2, 1) := by decide +kernel
theorem dX8_gale_9 : decode cX8_gale 9 = .ok (.invokevirtual 149, 3) := by decide +kernel
theorem dX8_gale_12 : decode cX8_gale 12 = .ok (.ifCond .eq 26, 3) := by decide +kernel
theorem dX8_gale_15 : decode cX8_gale 15 = .ok (.iload_n 3, 1) := by decide +kernel
theorem dX8_gale_16 : decode cX8_gale 16 = .ok (.iload_n 2, 1) := by decide +kernel
theorem dX8_gale_17 : decode cX8_gale 17 = .ok (.sipush 2000, 3) := by decide +kernel
theorem dX8_gale_20 : decode cX8_gale 20 = .ok (.invokestatic 78, 3) := by decide +kernel
theorem dX8_gale_23 : decode cX8_gale 23 = .ok (.ifCond .eq 15, 3) := by decide +kernel
theorem dX8_gale_26 : decode cX8_gale 26 = .ok (.iload 4, 2) := by decide +kernel
theorem dX8_gale_28 : decode cX8_gale 28 = .ok (.bipush 8, 2) := by decide +kernel
theorem dX8_gale_30 : decode cX8_gale 30 = .ok (.bipush 12, 2) := by decide +kernel
theorem dX8_gale_32 : decode cX8_gale 32 = .ok (.invokestatic 78, 3) := by decide +kernel
theorem dX8_gale_35 : decode cX8_gale 35 = .ok (.ifCond .ne 13, 3) := by decide +kernel
theorem dX8_gale_38 : decode cX8_gale 38 = .ok (.new 82, 3) := by decide +kernel
theorem dX8_gale_41 : decode cX8_gale 41 = .ok (.dup, 1) := by decide +kernel
theorem dX8_gale_42 : decode cX8_gale 42 = .ok (.ldc 152, 2) := by decide +kernel
theorem dX8_gale_44 : decode cX8_gale 44 = .ok (.invokespecial 86, 3) := by decide +kernel
theorem dX8_gale_47 : decode cX8_gale 47 = .ok (.athrow, 1) := by decide +kernel
theorem dX8_gale_48 : decode cX8_gale 48 = .ok (.aload_n 0, 1) := by decide +kernel
theorem dX8_gale_49 : decode cX8_gale 49 = .ok (.getfield 26, 3) := by decide +kernel
theorem dX8_gale_52 : decode cX8_gale 52 = .ok (.invokevirtual 89, 3) := by decide +kernel
theorem dX8_gale_55 : decode cX8_gale 55 = .ok (.istore 6, 2) := by decide +kernel
theorem dX8_gale_57 : decode cX8_gale 57 = .ok (.iload 6, 2) := by decide +kernel
theorem dX8_gale_59 : decode cX8_gale 59 = .ok (.bipush 30, 2) := by decide +kernel
theorem dX8_gale_61 : decode cX8_gale 61 = .ok (.if_icmp .lt 13, 3) := by decide +kernel
theorem dX8_gale_64 : decode cX8_gale 64 = .ok (.new 92, 3) := by decide +kernel
theorem dX8_gale_67 : decode cX8_gale 67 = .ok (.dup, 1) := by decide +kernel
theorem dX8_gale_68 : decode cX8_gale 68 = .ok (.ldc 154, 2) := by decide +kernel
theorem dX8_gale_70 : decode cX8_gale 70 = .ok (.invokespecial 96, 3) := by decide +kernel
theorem dX8_gale_73 : decode cX8_gale 73 = .ok (.athrow, 1) := by decide +kernel
theorem dX8_gale_74 : decode cX8_gale 74 = .ok (.aload_n 0, 1) := by decide +kernel
theorem dX8_gale_75 : decode cX8_gale 75 = .ok (.getfield 26, 3) := by decide +kernel
theorem dX8_gale_78 : decode cX8_gale 78 = .ok (.new 156, 3) := by decide +kernel
theorem dX8_gale_81 : decode cX8_gale 81 = .ok (.dup, 1) := by decide +kernel
theorem dX8_gale_82 : decode cX8_gale 82 = .ok (.aload 5, 2) := by decide +kernel
theorem dX8_gale_84 : decode cX8_gale 84 = .ok (.getfield 158, 3) := by decide +kernel
theorem dX8_gale_87 : decode cX8_gale 87 = .ok (.iload_n 2, 1) := by decide +kernel
theorem dX8_gale_88 : decode cX8_gale 88 = .ok (.iload_n 3, 1) := by decide +kernel
theorem dX8_gale_89 : decode cX8_gale 89 = .ok (.iload 4, 2) := by decide +kernel
theorem dX8_gale_91 : decode cX8_gale 91 = .ok (.invokespecial 159, 3) := by decide +kernel
theorem dX8_gale_94 : decode cX8_gale 94 = .ok (.invokevirtual 102, 3) := by decide +kernel
theorem dX8_gale_97 : decode cX8_gale 97 = .ok (.pop, 1) := by decide +kernel
theorem dX8_gale_98 : decode cX8_gale 98 = .ok (.iload 6, 2) := by decide +kernel
theorem dX8_gale_100 : decode cX8_gale 100 = .ok (.ireturn, 1) := by decide +kernel
theorem dX8_boat_0 : decode cX8_boat 0 = .ok (.aload_n 0, 1) := by decide +kernel
theorem dX8_boat_1 : decode cX8_boat 1 = .ok (.iload_n 1, 1) := by decide +kernel
theorem dX8_boat_2 : decode cX8_boat 2 = .ok (.invokevirtual 106, 3) := by decide +kernel
theorem dX8_boat_5 : decode cX8_boat 5 = .ok (.astore 4, 2) := by decide +kernel
theorem dX8_boat_7 : decode cX8_boat 7 = .ok (.iload_n 2, 1) := by decide +kernel
theorem dX8_boat_8 : decode cX8_boat 8 = .ok (.iconst 0, 1) := by decide +kernel
theorem dX8_boat_9 : decode cX8_boat 9 = .ok (.iconst 2, 1) := by decide +kernel
theorem dX8_boat_10 : decode cX8_boat 10 = .ok (.invokestatic 78, 3) := by decide +kernel
theorem dX8_boat_13 : decode cX8_boat 13 = .ok (.ifCond .eq 14, 3) := by decide +kernel
theorem dX8_boat_16 : decode cX8_boat 16 = .ok (.iload_n 3, 1) := by decide +kernel
theorem dX8_boat_17 : decode cX8_boat 17 = .ok (.bipush 8, 2) := by decide +kernel
theorem dX8_boat_19 : decode cX8_boat 19 = .ok (.bipush 13, 2) := by decide +kernel
theorem dX8_boat_21 : decode cX8_boat 21 = .ok (.invokestatic 78, 3) := by decide +kernel
theorem dX8_boat_24 : decode cX8_boat 24 = .ok (.ifCond .ne 13, 3) := by decide +kernel
theorem dX8_boat_27 : decode cX8_boat 27 = .ok (.new 82, 3) := by decide +kernel
theorem dX8_boat_30 : decode cX8_boat 30 = .ok (.dup, 1) := by decide +kernel
theorem dX8_boat_31 : decode cX8_boat 31 = .ok (.ldc 162, 2) := by decide +kernel
theorem dX8_boat_33 : decode cX8_boat 33 = .ok (.invokespecial 86, 3) := by decide +kernel
theorem dX8_boat_36 : decode cX8_boat 36 = .ok (.athrow, 1) := by decide +kernel
theorem dX8_boat_37 : decode cX8_boat 37 = .ok (.aload_n 0, 1) := by decide +kernel
theorem dX8_boat_38 : decode cX8_boat 38 = .ok (.getfield 29, 3) := by decide +kernel
theorem dX8_boat_41 : decode cX8_boat 41 = .ok (.invokevirtual 89, 3) := by decide +kernel
theorem dX8_boat_44 : decode cX8_boat 44 = .ok (.istore 5, 2) := by decide +kernel
theorem dX8_boat_46 : decode cX8_boat 46 = .ok (.iload 5, 2) := by decide +kernel
theorem dX8_boat_48 : decode cX8_boat 48 = .ok (.bipush 12, 2) := by decide +kernel
theorem dX8_boat_50 : decode cX8_boat 50 = .ok (.if_icmp .lt 13, 3) := by decide +kernel
theorem dX8_boat_53 : decode cX8_boat 53 = .ok (.new 92, 3) := by decide +kernel
theorem dX8_boat_56 : decode cX8_boat 56 = .ok (.dup, 1) := by decide +kernel
theorem dX8_boat_57 : decode cX8_boat 57 = .ok (.ldc 164, 2) := by decide +kernel
theorem dX8_boat_59 : decode cX8_boat 59 = .ok (.invokespecial 96, 3) := by decide +kernel
theorem dX8_boat_62 : decode cX8_boat 62 = .ok (.athrow, 1) := by decide +kernel
theorem dX8_boat_63 : decode cX8_boat 63 = .ok (.aload_n 0, 1) := by decide +kernel
theorem dX8_boat_64 : decode cX8_boat 64 = .ok (.getfield 29, 3) := by decide +kernel
theorem dX8_boat_67 : decode cX8_boat 67 = .ok (.new 166, 3) := by decide +kernel
theorem dX8_boat_70 : decode cX8_boat 70 = .ok (.dup, 1) := by decide +kernel
theorem dX8_boat_71 : decode cX8_boat 71 = .ok (.aload 4, 2) := by decide +kernel
theorem dX8_boat_73 : decode cX8_boat 73 = .ok (.iload_n 2, 1) := by decide +kernel
theorem dX8_boat_74 : decode cX8_boat 74 = .ok (.iload_n 3, 1) := by decide +kernel
theorem dX8_boat_75 : decode cX8_boat 75 = .ok (.invokespecial 168, 3) := by decide +kernel
theorem dX8_boat_78 : decode cX8_boat 78 = .ok (.invokevirtual 102, 3) := by decide +kernel
theorem dX8_boat_81 : decode cX8_boat 81 = .ok (.pop, 1) := by decide +kernel
theorem dX8_boat_82 : decode cX8_boat 82 = .ok (.iload 5, 2) := by decide +kernel
theorem dX8_boat_84 : decode cX8_boat 84 = .ok (.ireturn, 1) := by decide +kernel
theorem dX8_trip_0 : decode cX8_trip 0 = .ok (.aload_n 0, 1) := by decide +kernel
theorem dX8_trip_1 : decode cX8_trip 1 = .ok (.iload_n 1, 1) := by decide +kernel
theorem dX8_trip_2 : decode cX8_trip 2 = .ok (.invokevirtual 171, 3) := by decide +kernel
theorem dX8_trip_5 : decode cX8_trip 5 = .ok (.astore 4, 2) := by decide +kernel
theorem dX8_trip_7 : decode cX8_trip 7 = .ok (.aload_n 0, 1) := by decide +kernel
theorem dX8_trip_8 : decode cX8_trip 8 = .ok (.iload_n 2, 1) := by decide +kernel
theorem dX8_trip_9 : decode cX8_trip 9 = .ok (.invokevirtual 149, 3) := by decide +kernel
theorem dX8_trip_12 : decode cX8_trip 12 = .ok (.ifCond .eq 13, 3) := by decide +kernel
theorem dX8_trip_15 : decode cX8_trip 15 = .ok (.iload_n 3, 1) := by decide +kernel
theorem dX8_trip_16 : decode cX8_trip 16 = .ok (.iconst 1, 1) := by decide +kernel
theorem dX8_trip_17 : decode cX8_trip 17 = .ok (.bipush 48, 2) := by decide +kernel
theorem dX8_trip_19 : decode cX8_trip 19 = .ok (.invokestatic 78, 3) := by decide +kernel
theorem dX8_trip_22 : decode cX8_trip 22 = .ok (.ifCond .ne 13, 3) := by decide +kernel
theorem dX8_trip_25 : decode cX8_trip 25 = .ok (.new 82, 3) := by decide +kernel
theorem dX8_trip_28 : decode cX8_trip 28 = .ok (.dup, 1) := by decide +kernel
theorem dX8_trip_29 : decode cX8_trip 29 = .ok (.ldc 175, 2) := by decide +kernel
theorem dX8_trip_31 : decode cX8_trip 31 = .ok (.invokespecial 86, 3) := by decide +kernel
theorem dX8_trip_34 : decode cX8_trip 34 = .ok (.athrow, 1) := by decide +kernel
theorem dX8_trip_35 : decode cX8_trip 35 = .ok (.aload 4, 2) := by decide +kernel
theorem dX8_trip_37 : decode cX8_trip 37 = .ok (.iload_n 2, 1) := by decide +kernel
theorem dX8_trip_38 : decode cX8_trip 38 = .ok (.iload_n 3, 1) := by decide +kernel
theorem dX8_trip_39 : decode cX8_trip 39 = .ok (.invokevirtual 177, 3) := by decide +kernel
theorem dX8_trip_42 : decode cX8_trip 42 = .ok (.ireturn, 1) := by decide +kernel
theorem dX8_hours_0 : decode cX8_hours 0 = .ok (.iload_n 1, 1) := by decide +kernel
theorem dX8_hours_1 : decode cX8_hours 1 = .ok (.iconst 0, 1) := by decide +kernel
theorem dX8_hours_2 : decode cX8_hours 2 = .ok (.sipush 200, 3) := by decide +kernel
theorem dX8_hours_5 : decode cX8_hours 5 = .ok (.invokestatic 78, 3) := by decide +kernel
theorem dX8_hours_8 : decode cX8_hours 8 = .ok (.ifCond .ne 13, 3) := by decide +kernel
theorem dX8_hours_11 : decode cX8_hours 11 = .ok (.new 82, 3) := by decide +kernel
theorem dX8_hours_14 : decode cX8_hours 14 = .ok (.dup, 1) := by decide +kernel
theorem dX8_hours_15 : decode cX8_hours 15 = .ok (.ldc 180, 2) := by decide +kernel
theorem dX8_hours_17 : decode cX8_hours 17 = .ok (.invokespecial 86, 3) := by decide +kernel
theorem dX8_hours_20 : decode cX8_hours 20 = .ok (.athrow, 1) := by decide +kernel
theorem dX8_hours_21 : decode cX8_hours 21 = .ok (.iconst 0, 1) := by decide +kernel
theorem dX8_hours_22 : decode cX8_hours 22 = .ok (.istore_n 2, 1) := by decide +kernel
theorem dX8_hours_23 : decode cX8_hours 23 = .ok (.iload_n 2, 1) := by decide +kernel
theorem dX8_hours_24 : decode cX8_hours 24 = .ok (.iload_n 1, 1) := by decide +kernel
theorem dX8_hours_25 : decode cX8_hours 25 = .ok (.if_icmp .ge 23, 3) := by decide +kernel
theorem dX8_hours_28 : decode cX8_hours 28 = .ok (.aload_n 0, 1) := by decide +kernel
theorem dX8_hours_29 : decode cX8_hours 29 = .ok (.getfield 56, 3) := by decide +kernel
theorem dX8_hours_32 : decode cX8_hours 32 = .ok (.sipush 2000, 3) := by decide +kernel
theorem dX8_hours_35 : decode cX8_hours 35 = .ok (.if_icmp .ge 13, 3) := by decide +kernel
theorem dX8_hours_38 : decode cX8_hours 38 = .ok (.aload_n 0, 1) := by decide +kernel
theorem dX8_hours_39 : decode cX8_hours 39 = .ok (.invokevirtual 182, 3) := by decide +kernel
theorem dX8_hours_42 : decode cX8_hours 42 = .ok (.iinc 2 1, 3) := by decide +kernel
theorem dX8_hours_45 : decode cX8_hours 45 = .ok (.goto (-22), 3) := by decide +kernel
theorem dX8_hours_48 : decode cX8_hours 48 = .ok (.aload_n 0, 1) := by decide +kernel
theorem dX8_hours_49 : decode cX8_hours 49 = .ok (.getfield 56, 3) := by decide +kernel
theorem dX8_hours_52 : decode cX8_hours 52 = .ok (.ireturn, 1) := by decide +kernel
theorem dX8_flies_0 : decode cX8_flies 0 = .ok (.aload_n 0, 1) := by decide +kernel
theorem dX8_flies_1 : decode cX8_flies 1 = .ok (.aload_n 0, 1) := by decide +kernel
theorem dX8_flies_2 : decode cX8_flies 2 = .ok (.iload_n 1, 1) := by decide +kernel
theorem dX8_flies_3 : decode cX8_flies 3 = .ok (.invokevirtual 106, 3) := by decide +kernel
theorem dX8_flies_6 : decode cX8_flies 6 = .ok (.iload_n 2, 1) := by decide +kernel
theorem dX8_flies_7 : decode cX8_flies 7 = .ok (.invokevirtual 185, 3) := by decide +kernel
theorem dX8_flies_10 : decode cX8_flies 10 = .ok (.ireturn, 1) := by decide +kernel
theorem dX8_warning_0 : decode cX8_warning 0 = .ok (.iload_n 1, 1) := by decide +kernel
theorem dX8_warning_1 : decode cX8_warning 1 = .ok (.ifCond .lt 14, 3) := by decide +kernel
theorem dX8_warning_4 : decode cX8_warning 4 = .ok (.iload_n 1, 1) := by decide +kernel
theorem dX8_warning_5 : decode cX8_warning 5 = .ok (.aload_n 0, 1) := by decide +kernel
theorem dX8_warning_6 : decode cX8_warning 6 = .ok (.getfield 23, 3) := by decide +kernel
theorem dX8_warning_9 : decode cX8_warning 9 = .ok (.invokevirtual 89, 3) := by decide +kernel
theorem dX8_warning_12 : decode cX8_warning 12 = .ok (.if_icmp .lt 13, 3) := by decide +kernel
theorem dX8_warning_15 : decode cX8_warning 15 = .ok (.new 189, 3) := by decide +kernel
theorem dX8_warning_18 : decode cX8_warning 18 = .ok (.dup, 1) := by decide +kernel
theorem dX8_warning_19 : decode cX8_warning 19 = .ok (.ldc 191, 2) := by decide +kernel
theorem dX8_warning_21 : decode cX8_warning 21 = .ok (.invokespecial 193, 3) := by decide +kernel
theorem dX8_warning_24 : decode cX8_warning 24 = .ok (.athrow, 1) := by decide +kernel
theorem dX8_warning_25 : decode cX8_warning 25 = .ok (.aload_n 0, 1) := by decide +kernel
theorem dX8_warning_26 : decode cX8_warning 26 = .ok (.getfield 23, 3) := by decide +kernel
theorem dX8_warning_29 : decode cX8_warning 29 = .ok (.iload_n 1, 1) := by decide +kernel
theorem dX8_warning_30 : decode cX8_warning 30 = .ok (.invokevirtual 194, 3) := by decide +kernel
theorem dX8_warning_33 : decode cX8_warning 33 = .ok (.checkcast 198, 3) := by decide +kernel
theorem dX8_warning_36 : decode cX8_warning 36 = .ok (.astore_n 3, 1) := by decide +kernel
theorem dX8_warning_37 : decode cX8_warning 37 = .ok (.iload_n 2, 1) := by decide +kernel
theorem dX8_warning_38 : decode cX8_warning 38 = .ok (.tableswitch 50 0 3 #[30, 35, 40, 45], 30) := by decide +kernel
theorem dX8_warning_68 : decode cX8_warning 68 = .ok (.aload_n 3, 1) := by decide +kernel
theorem dX8_warning_69 : decode cX8_warning 69 = .ok (.getfield 200, 3) := by decide +kernel
theorem dX8_warning_72 : decode cX8_warning 72 = .ok (.ireturn, 1) := by decide +kernel
theorem dX8_warning_73 : decode cX8_warning 73 = .ok (.aload_n 3, 1) := by decide +kernel
theorem dX8_warning_74 : decode cX8_warning 74 = .ok (.getfield 203, 3) := by decide +kernel
theorem dX8_warning_77 : decode cX8_warning 77 = .ok (.ireturn, 1) := by decide +kernel
theorem dX8_warning_78 : decode cX8_warning 78 = .ok (.aload_n 3, 1) := by decide +kernel
theorem dX8_warning_79 : decode cX8_warning 79 = .ok (.getfield 206, 3) := by decide +kernel
theorem dX8_warning_82 : decode cX8_warning 82 = .ok (.ireturn, 1) := by decide +kernel
theorem dX8_warning_83 : decode cX8_warning 83 = .ok (.aload_n 3, 1) := by decide +kernel
theorem dX8_warning_84 : decode cX8_warning 84 = .ok (.getfield 209, 3) := by decide +kernel
theorem dX8_warning_87 : decode cX8_warning 87 = .ok (.ireturn, 1) := by decide +kernel
theorem dX8_warning_88 : decode cX8_warning 88 = .ok (.new 212, 3) := by decide +kernel
theorem dX8_warning_91 : decode cX8_warning 91 = .ok (.dup, 1) := by decide +kernel
theorem dX8_warning_92 : decode cX8_warning 92 = .ok (.ldc 214, 2) := by decide +kernel
theorem dX8_warning_94 : decode cX8_warning 94 = .ok (.invokespecial 216, 3) := by decide +kernel
theorem dX8_warning_97 : decode cX8_warning 97 = .ok (.athrow, 1) := by decide +kernel
theorem dX8_look_0 : decode cX8_look 0 = .ok (.aload_n 0, 1) := by decide +kernel
theorem dX8_look_1 : decode cX8_look 1 = .ok (.iload_n 1, 1) := by decide +kernel
theorem dX8_look_2 : decode cX8_look 2 = .ok (.invokevirtual 171, 3) := by decide +kernel
theorem dX8_look_5 : decode cX8_look 5 = .ok (.astore_n 3, 1) := by decide +kernel
theorem dX8_look_6 : decode cX8_look 6 = .ok (.iload_n 2, 1) := by decide +kernel
theorem dX8_look_7 : decode cX8_look 7 = .ok (.tableswitch 49 0 3 #[29, 34, 39, 44], 29) := by decide +kernel
theorem dX8_look_36 : decode cX8_look 36 = .ok (.aload_n 3, 1) := by decide +kernel
theorem dX8_look_37 : decode cX8_look 37 = .ok (.getfield 217, 3) := by decide +kernel
theorem dX8_look_40 : decode cX8_look 40 = .ok (.ireturn, 1) := by decide +kernel
theorem dX8_look_41 : decode cX8_look 41 = .ok (.aload_n 3, 1) := by decide +kernel
theorem dX8_look_42 : decode cX8_look 42 = .ok (.getfield 220, 3) := by decide +kernel
theorem dX8_look_45 : decode cX8_look 45 = .ok (.ireturn, 1) := by decide +kernel
theorem dX8_look_46 : decode cX8_look 46 = .ok (.aload_n 3, 1) := by decide +kernel
theorem dX8_look_47 : decode cX8_look 47 = .ok (.getfield 223, 3) := by decide +kernel
theorem dX8_look_50 : decode cX8_look 50 = .ok (.ireturn, 1) := by decide +kernel
theorem dX8_look_51 : decode cX8_look 51 = .ok (.aload_n 3, 1) := by decide +kernel
theorem dX8_look_52 : decode cX8_look 52 = .ok (.getfield 226, 3) := by decide +kernel
theorem dX8_look_55 : decode cX8_look 55 = .ok (.ireturn, 1) := by decide +kernel
theorem dX8_look_56 : decode cX8_look 56 = .ok (.new 212, 3) := by decide +kernel
theorem dX8_look_59 : decode cX8_look 59 = .ok (.dup, 1) := by decide +kernel
theorem dX8_look_60 : decode cX8_look 60 = .ok (.ldc 227, 2) := by decide +kernel
theorem dX8_look_62 : decode cX8_look 62 = .ok (.invokespecial 216, 3) := by decide +kernel
theorem dX8_look_65 : decode cX8_look 65 = .ok (.athrow, 1) := by decide +kernel
theorem dX8_score_0 : decode cX8_score 0 = .ok (.aload_n 0, 1) := by decide +kernel
theorem dX8_score_1 : decode cX8_score 1 = .ok (.iload_n 1, 1) := by decide +kernel
theorem dX8_score_2 : decode cX8_score 2 = .ok (.invokevirtual 106, 3) := by decide +kernel
theorem dX8_score_5 : decode cX8_score 5 = .ok (.astore_n 3, 1) := by decide +kernel
theorem dX8_score_6 : decode cX8_score 6 = .ok (.iload_n 2, 1) := by decide +kernel
theorem dX8_score_7 : decode cX8_score 7 = .ok (.tableswitch 55 0 3 #[29, 36, 43, 49], 29) := by decide +kernel
theorem dX8_score_36 : decode cX8_score 36 = .ok (.aload_n 0, 1) := by decide +kernel
theorem dX8_score_37 : decode cX8_score 37 = .ok (.aload_n 3, 1) := by decide +kernel
theorem dX8_score_38 : decode cX8_score 38 = .ok (.iconst 1, 1) := by decide +kernel
theorem dX8_score_39 : decode cX8_score 39 = .ok (.invokevirtual 229, 3) := by decide +kernel
theorem dX8_score_42 : decode cX8_score 42 = .ok (.ireturn, 1) := by decide +kernel
theorem dX8_score_43 : decode cX8_score 43 = .ok (.aload_n 0, 1) := by decide +kernel
theorem dX8_score_44 : decode cX8_score 44 = .ok (.aload_n 3, 1) := by decide +kernel
theorem dX8_score_45 : decode cX8_score 45 = .ok (.iconst 0, 1) := by decide +kernel
theorem dX8_score_46 : decode cX8_score 46 = .ok (.invokevirtual 229, 3) := by decide +kernel
theorem dX8_score_49 : decode cX8_score 49 = .ok (.ireturn, 1) := by decide +kernel
theorem dX8_score_50 : decode cX8_score 50 = .ok (.aload_n 0, 1) := by decide +kernel
theorem dX8_score_51 : decode cX8_score 51 = .ok (.aload_n 3, 1) := by decide +kernel
theorem dX8_score_52 : decode cX8_score 52 = .ok (.invokevirtual 233, 3) := by decide +kernel
theorem dX8_score_55 : decode cX8_score 55 = .ok (.ireturn, 1) := by decide +kernel
theorem dX8_score_56 : decode cX8_score 56 = .ok (.aload_n 0, 1) := by decide +kernel
theorem dX8_score_57 : decode cX8_score 57 = .ok (.aload_n 3, 1) := by decide +kernel
theorem dX8_score_58 : decode cX8_score 58 = .ok (.invokevirtual 237, 3) := by decide +kernel
theorem dX8_score_61 : decode cX8_score 61 = .ok (.ireturn, 1) := by decide +kernel
theorem dX8_score_62 : decode cX8_score 62 = .ok (.new 212, 3) := by decide +kernel
theorem dX8_score_65 : decode cX8_score 65 = .ok (.dup, 1) := by decide +kernel
theorem dX8_score_66 : decode cX8_score 66 = .ok (.ldc 240, 2) := by decide +kernel
theorem dX8_score_68 : decode cX8_score 68 = .ok (.invokespecial 216, 3) := by decide +kernel
theorem dX8_score_71 : decode cX8_score 71 = .ok (.athrow, 1) := by decide +kernel
theorem dX8_count_0 : decode cX8_count 0 = .ok (.iload_n 1, 1) := by decide +kernel
theorem dX8_count_1 : decode cX8_count 1 = .ok (.tableswitch 113 0 8 #[51, 56, 64, 69, 77, 85, 93, 101, 107], 51) := by decide +kernel
theorem dX8_count_52 : decode cX8_count 52 = .ok (.aload_n 0, 1) := by decide +kernel
theorem dX8_count_53 : decode cX8_count 53 = .ok (.getfield 56, 3) := by decide +kernel
theorem dX8_count_56 : decode cX8_count 56 = .ok (.ireturn, 1) := by decide +kernel
theorem dX8_count_57 : decode cX8_count 57 = .ok (.aload_n 0, 1) := by decide +kernel
theorem dX8_count_58 : decode cX8_count 58 = .ok (.getfield 19, 3) := by decide +kernel
theorem dX8_count_61 : decode cX8_count 61 = .ok (.invokevirtual 89, 3) := by decide +kernel
theorem dX8_count_64 : decode cX8_count 64 = .ok (.ireturn, 1) := by decide +kernel
theorem dX8_count_65 : decode cX8_count 65 = .ok (.aload_n 0, 1) := by decide +kernel
theorem dX8_count_66 : decode cX8_count 66 = .ok (.getfield 53, 3) := by decide +kernel
theorem dX8_count_69 : decode cX8_count 69 = .ok (.ireturn, 1) := by decide +kernel
theorem dX8_count_70 : decode cX8_count 70 = .ok (.aload_n 0, 1) := by decide +kernel
theorem dX8_count_71 : decode cX8_count 71 = .ok (.getfield 42, 3) := by decide +kernel
theorem dX8_count_74 : decode cX8_count 74 = .ok (.invokevirtual 148, 3) := by decide +kernel
theorem dX8_count_77 : decode cX8_count 77 = .ok (.ireturn, 1) := by decide +kernel
theorem dX8_count_78 : decode cX8_count 78 = .ok (.aload_n 0, 1) := by decide +kernel
theorem dX8_count_79 : decode cX8_count 79 = .ok (.getfield 23, 3) := by decide +kernel
theorem dX8_count_82 : decode cX8_count 82 = .ok (.invokevirtual 89, 3) := by decide +kernel
theorem dX8_count_85 : decode cX8_count 85 = .ok (.ireturn, 1) := by decide +kernel
theorem dX8_count_86 : decode cX8_count 86 = .ok (.aload_n 0, 1) := by decide +kernel
theorem dX8_count_87 : decode cX8_count 87 = .ok (.getfield 26, 3) := by decide +kernel
theorem dX8_count_90 : decode cX8_count 90 = .ok (.invokevirtual 89, 3) := by decide +kernel
theorem dX8_count_93 : decode cX8_count 93 = .ok (.ireturn, 1) := by decide +kernel
theorem dX8_count_94 : decode cX8_count 94 = .ok (.aload_n 0, 1) := by decide +kernel
theorem dX8_count_95 : decode cX8_count 95 = .ok (.getfield 29, 3) := by decide +kernel
theorem dX8_count_98 : decode cX8_count 98 = .ok (.invokevirtual 89, 3) := by decide +kernel
theorem dX8_count_101 : decode cX8_count 101 = .ok (.ireturn, 1) := by decide +kernel
theorem dX8_count_102 : decode cX8_count 102 = .ok (.aload_n 0, 1) := by decide +kernel
theorem dX8_count_103 : decode cX8_count 103 = .ok (.iconst 3, 1) := by decide +kernel
theorem dX8_count_104 : decode cX8_count 104 = .ok (.invokevirtual 242, 3) := by decide +kernel
theorem dX8_count_107 : decode cX8_count 107 = .ok (.ireturn, 1) := by decide +kernel
theorem dX8_count_108 : decode cX8_count 108 = .ok (.aload_n 0, 1) := by decide +kernel
theorem dX8_count_109 : decode cX8_count 109 = .ok (.iconst 2, 1) := by decide +kernel
theorem dX8_count_110 : decode cX8_count 110 = .ok (.invokevirtual 242, 3) := by decide +kernel
theorem dX8_count_113 : decode cX8_count 113 = .ok (.ireturn, 1) := by decide +kernel
theorem dX8_count_114 : decode cX8_count 114 = .ok (.iconst (-1), 1) := by decide +kernel
theorem dX8_count_115 : decode cX8_count 115 = .ok (.ireturn, 1) := by decide +kernel
theorem dX8_within_0 : decode cX8_within 0 = .ok (.iload_n 0, 1) := by decide +kernel
theorem dX8_within_1 : decode cX8_within 1 = .ok (.iload_n 1, 1) := by decide +kernel
theorem dX8_within_2 : decode cX8_within 2 = .ok (.if_icmp .lt 12, 3) := by decide +kernel
theorem dX8_within_5 : decode cX8_within 5 = .ok (.iload_n 0, 1) := by decide +kernel
theorem dX8_within_6 : decode cX8_within 6 = .ok (.iload_n 2, 1) := by decide +kernel
theorem dX8_within_7 : decode cX8_within 7 = .ok (.if_icmp .gt 7, 3) := by decide +kernel
theorem dX8_within_10 : decode cX8_within 10 = .ok (.iconst 1, 1) := by decide +kernel
theorem dX8_within_11 : decode cX8_within 11 = .ok (.goto 4, 3) := by decide +kernel
theorem dX8_within_14 : decode cX8_within 14 = .ok (.iconst 0, 1) := by decide +kernel
theorem dX8_within_15 : decode cX8_within 15 = .ok (.ireturn, 1) := by decide +kernel
theorem dX8_isPlace_0 : decode cX8_isPlace 0 = .ok (.iload_n 0, 1) := by decide +kernel
theorem dX8_isPlace_1 : decode cX8_isPlace 1 = .ok (.iconst 0, 1) := by decide +kernel
theorem dX8_isPlace_2 : decode cX8_isPlace 2 = .ok (.bipush 15, 2) := by decide +kernel
theorem dX8_isPlace_4 : decode cX8_isPlace 4 = .ok (.invokestatic 78, 3) := by decide +kernel
theorem dX8_isPlace_7 : decode cX8_isPlace 7 = .ok (.ifCond .eq 17, 3) := by decide +kernel
theorem dX8_isPlace_10 : decode cX8_isPlace 10 = .ok (.iload_n 1, 1) := by decide +kernel
theorem dX8_isPlace_11 : decode cX8_isPlace 11 = .ok (.iconst 0, 1) := by decide +kernel
theorem dX8_isPlace_12 : decode cX8_isPlace 12 = .ok (.bipush 15, 2) := by decide +kernel
theorem dX8_isPlace_14 : decode cX8_isPlace 14 = .ok (.invokestatic 78, 3) := by decide +kernel
theorem dX8_isPlace_17 : decode cX8_isPlace 17 = .ok (.ifCond .eq 7, 3) := by decide +kernel
theorem dX8_isPlace_20 : decode cX8_isPlace 20 = .ok (.iconst 1, 1) := by decide +kernel
theorem dX8_isPlace_21 : decode cX8_isPlace 21 = .ok (.goto 4, 3) := by decide +kernel
theorem dX8_isPlace_24 : decode cX8_isPlace 24 = .ok (.iconst 0, 1) := by decide +kernel
theorem dX8_isPlace_25 : decode cX8_isPlace 25 = .ok (.ireturn, 1) := by decide +kernel
theorem dX8_isWatchBegun_0 : decode cX8_isWatchBegun 0 = .ok (.iload_n 1, 1) := by decide +kernel
theorem dX8_isWatchBegun_1 : decode cX8_isWatchBegun 1 = .ok (.iconst 0, 1) := by decide +kernel
theorem dX8_isWatchBegun_2 : decode cX8_isWatchBegun 2 = .ok (.sipush 250, 3) := by decide +kernel
theorem dX8_isWatchBegun_5 : decode cX8_isWatchBegun 5 = .ok (.invokestatic 78, 3) := by decide +kernel
theorem dX8_isWatchBegun_8 : decode cX8_isWatchBegun 8 = .ok (.ifCond .eq 18, 3) := by decide +kernel
theorem dX8_isWatchBegun_11 : decode cX8_isWatchBegun 11 = .ok (.iload_n 1, 1) := by decide +kernel
theorem dX8_isWatchBegun_12 : decode cX8_isWatchBegun 12 = .ok (.bipush 8, 2) := by decide +kernel
theorem dX8_isWatchBegun_14 : decode cX8_isWatchBegun 14 = .ok (.imul, 1) := by decide +kernel
theorem dX8_isWatchBegun_15 : decode cX8_isWatchBegun 15 = .ok (.aload_n 0, 1) := by decide +kernel
theorem dX8_isWatchBegun_16 : decode cX8_isWatchBegun 16 = .ok (.getfield 56, 3) := by decide +kernel
theorem dX8_isWatchBegun_19 : decode cX8_isWatchBegun 19 = .ok (.if_icmp .gt 7, 3) := by decide +kernel
theorem dX8_isWatchBegun_22 : decode cX8_isWatchBegun 22 = .ok (.iconst 1, 1) := by decide +kernel
theorem dX8_isWatchBegun_23 : decode cX8_isWatchBegun 23 = .ok (.goto 4, 3) := by decide +kernel
theorem dX8_isWatchBegun_26 : decode cX8_isWatchBegun 26 = .ok (.iconst 0, 1) := by decide +kernel
theorem dX8_isWatchBegun_27 : decode cX8_isWatchBegun 27 = .ok (.ireturn, 1) := by decide +kernel
theorem dX8_isHourToCome_0 : decode cX8_isHourToCome 0 = .ok (.iload_n 1, 1) := by decide +kernel
theorem dX8_isHourToCome_1 : decode cX8_isHourToCome 1 = .ok (.aload_n 0, 1) := by decide +kernel
theorem dX8_isHourToCome_2 : decode cX8_isHourToCome 2 = .ok (.getfield 56, 3) := by decide +kernel
theorem dX8_isHourToCome_5 : decode cX8_isHourToCome 5 = .ok (.if_icmp .le 14, 3) := by decide +kernel
theorem dX8_isHourToCome_8 : decode cX8_isHourToCome 8 = .ok (.iload_n 1, 1) := by decide +kernel
theorem dX8_isHourToCome_9 : decode cX8_isHourToCome 9 = .ok (.sipush 2000, 3) := by decide +kernel
theorem dX8_isHourToCome_12 : decode cX8_isHourToCome 12 = .ok (.if_icmp .gt 7, 3) := by decide +kernel
theorem dX8_isHourToCome_15 : decode cX8_isHourToCome 15 = .ok (.iconst 1, 1) := by decide +kernel
theorem dX8_isHourToCome_16 : decode cX8_isHourToCome 16 = .ok (.goto 4, 3) := by decide +kernel
theorem dX8_isHourToCome_19 : decode cX8_isHourToCome 19 = .ok (.iconst 0, 1) := by decide +kernel
theorem dX8_isHourToCome_20 : decode cX8_isHourToCome 20 = .ok (.ireturn, 1) := by decide +kernel
theorem dX8_portNumbered_0 : decode cX8_portNumbered 0 = .ok (.iload_n 1, 1) := by decide +kernel
theorem dX8_portNumbered_1 : decode cX8_portNumbered 1 = .ok (.ifCond .lt 14, 3) := by decide +kernel
theorem dX8_portNumbered_4 : decode cX8_portNumbered 4 = .ok (.iload_n 1, 1) := by decide +kernel
theorem dX8_portNumbered_5 : decode cX8_portNumbered 5 = .ok (.aload_n 0, 1) := by decide +kernel
theorem dX8_portNumbered_6 : decode cX8_portNumbered 6 = .ok (.getfield 19, 3) := by decide +kernel
theorem dX8_portNumbered_9 : decode cX8_portNumbered 9 = .ok (.invokevirtual 89, 3) := by decide +kernel
theorem dX8_portNumbered_12 : decode cX8_portNumbered 12 = .ok (.if_icmp .lt 13, 3) := by decide +kernel
theorem dX8_portNumbered_15 : decode cX8_portNumbered 15 = .ok (.new 189, 3) := by decide +kernel
theorem dX8_portNumbered_18 : decode cX8_portNumbered 18 = .ok (.dup, 1) := by decide +kernel
theorem dX8_portNumbered_19 : decode cX8_portNumbered 19 = .ok (.ldc 246, 2) := by decide +kernel
theorem dX8_portNumbered_21 : decode cX8_portNumbered 21 = .ok (.invokespecial 193, 3) := by decide +kernel
theorem dX8_portNumbered_24 : decode cX8_portNumbered 24 = .ok (.athrow, 1) := by decide +kernel
theorem dX8_portNumbered_25 : decode cX8_portNumbered 25 = .ok (.aload_n 0, 1) := by decide +kernel
theorem dX8_portNumbered_26 : decode cX8_portNumbered 26 = .ok (.getfield 19, 3) := by decide +kernel
theorem dX8_portNumbered_29 : decode cX8_portNumbered 29 = .ok (.iload_n 1, 1) := by decide +kernel
theorem dX8_portNumbered_30 : decode cX8_portNumbered 30 = .ok (.invokevirtual 194, 3) := by decide +kernel
theorem dX8_portNumbered_33 : decode cX8_portNumbered 33 = .ok (.checkcast 97, 3) := by decide +kernel
theorem dX8_portNumbered_36 : decode cX8_portNumbered 36 = .ok (.areturn, 1) := by decide +kernel
theorem dX8_boatNumbered_0 : decode cX8_boatNumbered 0 = .ok (.iload_n 1, 1) := by decide +kernel
theorem dX8_boatNumbered_1 : decode cX8_boatNumbered 1 = .ok (.ifCond .lt 14, 3) := by decide +kernel
theorem dX8_boatNumbered_4 : decode cX8_boatNumbered 4 = .ok (.iload_n 1, 1) := by decide +kernel
theorem dX8_boatNumbered_5 : decode cX8_boatNumbered 5 = .ok (.aload_n 0, 1) := by decide +kernel
theorem dX8_boatNumbered_6 : decode cX8_boatNumbered 6 = .ok (.getfield 29, 3) := by decide +kernel
theorem dX8_boatNumbered_9 : decode cX8_boatNumbered 9 = .ok (.invokevirtual 89, 3) := by decide +kernel
theorem dX8_boatNumbered_12 : decode cX8_boatNumbered 12 = .ok (.if_icmp .lt 13, 3) := by decide +kernel
