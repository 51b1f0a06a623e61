theorem dX8_boatNumbered_15 : decode cX8_boatNumbered 15 = .ok (.new 189, 3) := by decide +kernel
theorem dX8_boatNumbered_18 : decode cX8_boatNumbered 18 = .ok (.dup, 1) := by decide +kernel
theorem dX8_boatNumbered_19 : decode cX8_boatNumbered 19 = .ok (.ldc 248, 2) := by decide +kernel
theorem dX8_boatNumbered_21 : decode cX8_boatNumbered 21 = .ok (.invokespecial 193, 3) := by decide +kernel
theorem dX8_boatNumbered_24 : decode cX8_boatNumbered 24 = .ok (.athrow, 1) := by decide +kernel
theorem dX8_boatNumbered_25 : decode cX8_boatNumbered 25 = .ok (.aload_n 0, 1) := by decide +kernel
theorem dX8_boatNumbered_26 : decode cX8_boatNumbered 26 = .ok (.getfield 29, 3) := by decide +kernel
theorem dX8_boatNumbered_29 : decode cX8_boatNumbered 29 = .ok (.iload_n 1, 1) := by decide +kernel
theorem dX8_boatNumbered_30 : decode cX8_boatNumbered 30 = .ok (.invokevirtual 194, 3) := by decide +kernel
theorem dX8_boatNumbered_33 : decode cX8_boatNumbered 33 = .ok (.checkcast 166, 3) := by decide +kernel
theorem dX8_boatNumbered_36 : decode cX8_boatNumbered 36 = .ok (.areturn, 1) := by decide +kernel
theorem dX8_glassAt_0 : decode cX8_glassAt 0 = .ok (.iconst 0, 1) := by decide +kernel
theorem dX8_glassAt_1 : decode cX8_glassAt 1 = .ok (.istore 5, 2) := by decide +kernel
theorem dX8_glassAt_3 : decode cX8_glassAt 3 = .ok (.iconst 0, 1) := by decide +kernel
theorem dX8_glassAt_4 : decode cX8_glassAt 4 = .ok (.istore 6, 2) := by decide +kernel
theorem dX8_glassAt_6 : decode cX8_glassAt 6 = .ok (.iconst 0, 1) := by decide +kernel
theorem dX8_glassAt_7 : decode cX8_glassAt 7 = .ok (.istore 7, 2) := by decide +kernel
theorem dX8_glassAt_9 : decode cX8_glassAt 9 = .ok (.iload 7, 2) := by decide +kernel
theorem dX8_glassAt_11 : decode cX8_glassAt 11 = .ok (.aload_n 0, 1) := by decide +kernel
theorem dX8_glassAt_12 : decode cX8_glassAt 12 = .ok (.getfield 19, 3) := by decide +kernel
theorem dX8_glassAt_15 : decode cX8_glassAt 15 = .ok (.invokevirtual 89, 3) := by decide +kernel
theorem dX8_glassAt_18 : decode cX8_glassAt 18 = .ok (.if_icmp .ge 67, 3) := by decide +kernel
theorem dX8_glassAt_21 : decode cX8_glassAt 21 = .ok (.aload_n 0, 1) := by decide +kernel
theorem dX8_glassAt_22 : decode cX8_glassAt 22 = .ok (.getfield 19, 3) := by decide +kernel
theorem dX8_glassAt_25 : decode cX8_glassAt 25 = .ok (.iload 7, 2) := by decide +kernel
theorem dX8_glassAt_27 : decode cX8_glassAt 27 = .ok (.invokevirtual 194, 3) := by decide +kernel
theorem dX8_glassAt_30 : decode cX8_glassAt 30 = .ok (.checkcast 97, 3) := by decide +kernel
theorem dX8_glassAt_33 : decode cX8_glassAt 33 = .ok (.astore 8, 2) := by decide +kernel
theorem dX8_glassAt_35 : decode cX8_glassAt 35 = .ok (.aload 8, 2) := by decide +kernel
theorem dX8_glassAt_37 : decode cX8_glassAt 37 = .ok (.iload_n 3, 1) := by decide +kernel
theorem dX8_glassAt_38 : decode cX8_glassAt 38 = .ok (.iload 4, 2) := by decide +kernel
theorem dX8_glassAt_40 : decode cX8_glassAt 40 = .ok (.invokevirtual 129, 3) := by decide +kernel
theorem dX8_glassAt_43 : decode cX8_glassAt 43 = .ok (.astore 9, 2) := by decide +kernel
theorem dX8_glassAt_45 : decode cX8_glassAt 45 = .ok (.aload 9, 2) := by decide +kernel
theorem dX8_glassAt_47 : decode cX8_glassAt 47 = .ok (.ifnull 32, 3) := by decide +kernel
theorem dX8_glassAt_50 : decode cX8_glassAt 50 = .ok (.aload 8, 2) := by decide +kernel
theorem dX8_glassAt_52 : decode cX8_glassAt 52 = .ok (.iload_n 1, 1) := by decide +kernel
theorem dX8_glassAt_53 : decode cX8_glassAt 53 = .ok (.iload_n 2, 1) := by decide +kernel
theorem dX8_glassAt_54 : decode cX8_glassAt 54 = .ok (.invokevirtual 250, 3) := by decide +kernel
theorem dX8_glassAt_57 : decode cX8_glassAt 57 = .ok (.istore 10, 2) := by decide +kernel
theorem dX8_glassAt_59 : decode cX8_glassAt 59 = .ok (.iload 5, 2) := by decide +kernel
theorem dX8_glassAt_61 : decode cX8_glassAt 61 = .ok (.aload 9, 2) := by decide +kernel
theorem dX8_glassAt_63 : decode cX8_glassAt 63 = .ok (.getfield 254, 3) := by decide +kernel
theorem dX8_glassAt_66 : decode cX8_glassAt 66 = .ok (.iload 10, 2) := by decide +kernel
theorem dX8_glassAt_68 : decode cX8_glassAt 68 = .ok (.imul, 1) := by decide +kernel
theorem dX8_glassAt_69 : decode cX8_glassAt 69 = .ok (.iadd, 1) := by decide +kernel
theorem dX8_glassAt_70 : decode cX8_glassAt 70 = .ok (.istore 5, 2) := by decide +kernel
theorem dX8_glassAt_72 : decode cX8_glassAt 72 = .ok (.iload 6, 2) := by decide +kernel
theorem dX8_glassAt_74 : decode cX8_glassAt 74 = .ok (.iload 10, 2) := by decide +kernel
theorem dX8_glassAt_76 : decode cX8_glassAt 76 = .ok (.iadd, 1) := by decide +kernel
theorem dX8_glassAt_77 : decode cX8_glassAt 77 = .ok (.istore 6, 2) := by decide +kernel
theorem dX8_glassAt_79 : decode cX8_glassAt 79 = .ok (.iinc 7 1, 3) := by decide +kernel
theorem dX8_glassAt_82 : decode cX8_glassAt 82 = .ok (.goto (-73), 3) := by decide +kernel
theorem dX8_glassAt_85 : decode cX8_glassAt 85 = .ok (.iload 6, 2) := by decide +kernel
theorem dX8_glassAt_87 : decode cX8_glassAt 87 = .ok (.ifCond .gt 7, 3) := by decide +kernel
theorem dX8_glassAt_90 : decode cX8_glassAt 90 = .ok (.iconst (-1), 1) := by decide +kernel
theorem dX8_glassAt_91 : decode cX8_glassAt 91 = .ok (.goto 8, 3) := by decide +kernel
theorem dX8_glassAt_94 : decode cX8_glassAt 94 = .ok (.iload 5, 2) := by decide +kernel
theorem dX8_glassAt_96 : decode cX8_glassAt 96 = .ok (.iload 6, 2) := by decide +kernel
theorem dX8_glassAt_98 : decode cX8_glassAt 98 = .ok (.idiv, 1) := by decide +kernel
theorem dX8_glassAt_99 : decode cX8_glassAt 99 = .ok (.ireturn, 1) := by decide +kernel
theorem dX8_passHour_0 : decode cX8_passHour 0 = .ok (.aload_n 0, 1) := by decide +kernel
theorem dX8_passHour_1 : decode cX8_passHour 1 = .ok (.dup, 1) := by decide +kernel
theorem dX8_passHour_2 : decode cX8_passHour 2 = .ok (.getfield 56, 3) := by decide +kernel
theorem dX8_passHour_5 : decode cX8_passHour 5 = .ok (.iconst 1, 1) := by decide +kernel
theorem dX8_passHour_6 : decode cX8_passHour 6 = .ok (.iadd, 1) := by decide +kernel
theorem dX8_passHour_7 : decode cX8_passHour 7 = .ok (.putfield 56, 3) := by decide +kernel
theorem dX8_passHour_10 : decode cX8_passHour 10 = .ok (.aload_n 0, 1) := by decide +kernel
theorem dX8_passHour_11 : decode cX8_passHour 11 = .ok (.invokevirtual 257, 3) := by decide +kernel
theorem dX8_passHour_14 : decode cX8_passHour 14 = .ok (.ifCond .eq 7, 3) := by decide +kernel
theorem dX8_passHour_17 : decode cX8_passHour 17 = .ok (.aload_n 0, 1) := by decide +kernel
theorem dX8_passHour_18 : decode cX8_passHour 18 = .ok (.invokevirtual 261, 3) := by decide +kernel
theorem dX8_passHour_21 : decode cX8_passHour 21 = .ok (.iconst 0, 1) := by decide +kernel
theorem dX8_passHour_22 : decode cX8_passHour 22 = .ok (.istore_n 1, 1) := by decide +kernel
theorem dX8_passHour_23 : decode cX8_passHour 23 = .ok (.iload_n 1, 1) := by decide +kernel
theorem dX8_passHour_24 : decode cX8_passHour 24 = .ok (.aload_n 0, 1) := by decide +kernel
theorem dX8_passHour_25 : decode cX8_passHour 25 = .ok (.getfield 29, 3) := by decide +kernel
theorem dX8_passHour_28 : decode cX8_passHour 28 = .ok (.invokevirtual 89, 3) := by decide +kernel
theorem dX8_passHour_31 : decode cX8_passHour 31 = .ok (.if_icmp .ge 24, 3) := by decide +kernel
theorem dX8_passHour_34 : decode cX8_passHour 34 = .ok (.aload_n 0, 1) := by decide +kernel
theorem dX8_passHour_35 : decode cX8_passHour 35 = .ok (.aload_n 0, 1) := by decide +kernel
theorem dX8_passHour_36 : decode cX8_passHour 36 = .ok (.getfield 29, 3) := by decide +kernel
theorem dX8_passHour_39 : decode cX8_passHour 39 = .ok (.iload_n 1, 1) := by decide +kernel
theorem dX8_passHour_40 : decode cX8_passHour 40 = .ok (.invokevirtual 194, 3) := by decide +kernel
theorem dX8_passHour_43 : decode cX8_passHour 43 = .ok (.checkcast 166, 3) := by decide +kernel
theorem dX8_passHour_46 : decode cX8_passHour 46 = .ok (.invokevirtual 264, 3) := by decide +kernel
theorem dX8_passHour_49 : decode cX8_passHour 49 = .ok (.iinc 1 1, 3) := by decide +kernel
theorem dX8_passHour_52 : decode cX8_passHour 52 = .ok (.goto (-29), 3) := by decide +kernel
theorem dX8_passHour_55 : decode cX8_passHour 55 = .ok (.return_, 1) := by decide +kernel
theorem dX8_isOfficeHour_0 : decode cX8_isOfficeHour 0 = .ok (.aload_n 0, 1) := by decide +kernel
theorem dX8_isOfficeHour_1 : decode cX8_isOfficeHour 1 = .ok (.getfield 56, 3) := by decide +kernel
theorem dX8_isOfficeHour_4 : decode cX8_isOfficeHour 4 = .ok (.iconst 2, 1) := by decide +kernel
theorem dX8_isOfficeHour_5 : decode cX8_isOfficeHour 5 = .ok (.if_icmp .le 18, 3) := by decide +kernel
theorem dX8_isOfficeHour_8 : decode cX8_isOfficeHour 8 = .ok (.aload_n 0, 1) := by decide +kernel
theorem dX8_isOfficeHour_9 : decode cX8_isOfficeHour 9 = .ok (.getfield 56, 3) := by decide +kernel
theorem dX8_isOfficeHour_12 : decode cX8_isOfficeHour 12 = .ok (.bipush 8, 2) := by decide +kernel
theorem dX8_isOfficeHour_14 : decode cX8_isOfficeHour 14 = .ok (.irem, 1) := by decide +kernel
theorem dX8_isOfficeHour_15 : decode cX8_isOfficeHour 15 = .ok (.iconst 2, 1) := by decide +kernel
theorem dX8_isOfficeHour_16 : decode cX8_isOfficeHour 16 = .ok (.if_icmp .ne 7, 3) := by decide +kernel
theorem dX8_isOfficeHour_19 : decode cX8_isOfficeHour 19 = .ok (.iconst 1, 1) := by decide +kernel
theorem dX8_isOfficeHour_20 : decode cX8_isOfficeHour 20 = .ok (.goto 4, 3) := by decide +kernel
theorem dX8_isOfficeHour_23 : decode cX8_isOfficeHour 23 = .ok (.iconst 0, 1) := by decide +kernel
theorem dX8_isOfficeHour_24 : decode cX8_isOfficeHour 24 = .ok (.ireturn, 1) := by decide +kernel
theorem dX8_doOfficeWork_0 : decode cX8_doOfficeWork 0 = .ok (.aload_n 0, 1) := by decide +kernel
theorem dX8_doOfficeWork_1 : decode cX8_doOfficeWork 1 = .ok (.getfield 56, 3) := by decide +kernel
theorem dX8_doOfficeWork_4 : decode cX8_doOfficeWork 4 = .ok (.iconst 2, 1) := by decide +kernel
theorem dX8_doOfficeWork_5 : decode cX8_doOfficeWork 5 = .ok (.isub, 1) := by decide +kernel
theorem dX8_doOfficeWork_6 : decode cX8_doOfficeWork 6 = .ok (.bipush 8, 2) := by decide +kernel
theorem dX8_doOfficeWork_8 : decode cX8_doOfficeWork 8 = .ok (.idiv, 1) := by decide +kernel
theorem dX8_doOfficeWork_9 : decode cX8_doOfficeWork 9 = .ok (.istore_n 1, 1) := by decide +kernel
theorem dX8_doOfficeWork_10 : decode cX8_doOfficeWork 10 = .ok (.iconst 0, 1) := by decide +kernel
theorem dX8_doOfficeWork_11 : decode cX8_doOfficeWork 11 = .ok (.istore_n 2, 1) := by decide +kernel
theorem dX8_doOfficeWork_12 : decode cX8_doOfficeWork 12 = .ok (.iload_n 2, 1) := by decide +kernel
theorem dX8_doOfficeWork_13 : decode cX8_doOfficeWork 13 = .ok (.iconst 3, 1) := by decide +kernel
theorem dX8_doOfficeWork_14 : decode cX8_doOfficeWork 14 = .ok (.if_icmp .gt 23, 3) := by decide +kernel
theorem dX8_doOfficeWork_17 : decode cX8_doOfficeWork 17 = .ok (.aload_n 0, 1) := by decide +kernel
theorem dX8_doOfficeWork_18 : decode cX8_doOfficeWork 18 = .ok (.iload_n 2, 1) := by decide +kernel
theorem dX8_doOfficeWork_19 : decode cX8_doOfficeWork 19 = .ok (.iload_n 1, 1) := by decide +kernel
theorem dX8_doOfficeWork_20 : decode cX8_doOfficeWork 20 = .ok (.invokevirtual 268, 3) := by decide +kernel
theorem dX8_doOfficeWork_23 : decode cX8_doOfficeWork 23 = .ok (.ifCond .eq 8, 3) := by decide +kernel
theorem dX8_doOfficeWork_26 : decode cX8_doOfficeWork 26 = .ok (.aload_n 0, 1) := by decide +kernel
theorem dX8_doOfficeWork_27 : decode cX8_doOfficeWork 27 = .ok (.iload_n 2, 1) := by decide +kernel
theorem dX8_doOfficeWork_28 : decode cX8_doOfficeWork 28 = .ok (.invokevirtual 271, 3) := by decide +kernel
theorem dX8_doOfficeWork_31 : decode cX8_doOfficeWork 31 = .ok (.iinc 2 1, 3) := by decide +kernel
theorem dX8_doOfficeWork_34 : decode cX8_doOfficeWork 34 = .ok (.goto (-22), 3) := by decide +kernel
theorem dX8_doOfficeWork_37 : decode cX8_doOfficeWork 37 = .ok (.return_, 1) := by decide +kernel
theorem dX8_drawOutlook_0 : decode cX8_drawOutlook 0 = .ok (.iconst 0, 1) := by decide +kernel
theorem dX8_drawOutlook_1 : decode cX8_drawOutlook 1 = .ok (.istore_n 3, 1) := by decide +kernel
theorem dX8_drawOutlook_2 : decode cX8_drawOutlook 2 = .ok (.iconst 0, 1) := by decide +kernel
theorem dX8_drawOutlook_3 : decode cX8_drawOutlook 3 = .ok (.istore 4, 2) := by decide +kernel
theorem dX8_drawOutlook_5 : decode cX8_drawOutlook 5 = .ok (.iconst 0, 1) := by decide +kernel
theorem dX8_drawOutlook_6 : decode cX8_drawOutlook 6 = .ok (.istore 5, 2) := by decide +kernel
theorem dX8_drawOutlook_8 : decode cX8_drawOutlook 8 = .ok (.iconst (-1), 1) := by decide +kernel
theorem dX8_drawOutlook_9 : decode cX8_drawOutlook 9 = .ok (.istore 6, 2) := by decide +kernel
theorem dX8_drawOutlook_11 : decode cX8_drawOutlook 11 = .ok (.iconst 0, 1) := by decide +kernel
theorem dX8_drawOutlook_12 : decode cX8_drawOutlook 12 = .ok (.istore 7, 2) := by decide +kernel
theorem dX8_drawOutlook_14 : decode cX8_drawOutlook 14 = .ok (.iload 7, 2) := by decide +kernel
theorem dX8_drawOutlook_16 : decode cX8_drawOutlook 16 = .ok (.aload_n 0, 1) := by decide +kernel
theorem dX8_drawOutlook_17 : decode cX8_drawOutlook 17 = .ok (.getfield 19, 3) := by decide +kernel
theorem dX8_drawOutlook_20 : decode cX8_drawOutlook 20 = .ok (.invokevirtual 89, 3) := by decide +kernel
theorem dX8_drawOutlook_23 : decode cX8_drawOutlook 23 = .ok (.if_icmp .ge 70, 3) := by decide +kernel
theorem dX8_drawOutlook_26 : decode cX8_drawOutlook 26 = .ok (.aload_n 0, 1) := by decide +kernel
theorem dX8_drawOutlook_27 : decode cX8_drawOutlook 27 = .ok (.getfield 19, 3) := by decide +kernel
theorem dX8_drawOutlook_30 : decode cX8_drawOutlook 30 = .ok (.iload 7, 2) := by decide +kernel
theorem dX8_drawOutlook_32 : decode cX8_drawOutlook 32 = .ok (.invokevirtual 194, 3) := by decide +kernel
theorem dX8_drawOutlook_35 : decode cX8_drawOutlook 35 = .ok (.checkcast 97, 3) := by decide +kernel
theorem dX8_drawOutlook_38 : decode cX8_drawOutlook 38 = .ok (.astore 8, 2) := by decide +kernel
theorem dX8_drawOutlook_40 : decode cX8_drawOutlook 40 = .ok (.aload 8, 2) := by decide +kernel
theorem dX8_drawOutlook_42 : decode cX8_drawOutlook 42 = .ok (.getfield 274, 3) := by decide +kernel
theorem dX8_drawOutlook_45 : decode cX8_drawOutlook 45 = .ok (.iload_n 1, 1) := by decide +kernel
theorem dX8_drawOutlook_46 : decode cX8_drawOutlook 46 = .ok (.if_icmp .ne 41, 3) := by decide +kernel
theorem dX8_drawOutlook_49 : decode cX8_drawOutlook 49 = .ok (.iload_n 3, 1) := by decide +kernel
theorem dX8_drawOutlook_50 : decode cX8_drawOutlook 50 = .ok (.aload 8, 2) := by decide +kernel
theorem dX8_drawOutlook_52 : decode cX8_drawOutlook 52 = .ok (.getfield 275, 3) := by decide +kernel
theorem dX8_drawOutlook_55 : decode cX8_drawOutlook 55 = .ok (.iadd, 1) := by decide +kernel
theorem dX8_drawOutlook_56 : decode cX8_drawOutlook 56 = .ok (.istore_n 3, 1) := by decide +kernel
theorem dX8_drawOutlook_57 : decode cX8_drawOutlook 57 = .ok (.iload 4, 2) := by decide +kernel
theorem dX8_drawOutlook_59 : decode cX8_drawOutlook 59 = .ok (.aload 8, 2) := by decide +kernel
theorem dX8_drawOutlook_61 : decode cX8_drawOutlook 61 = .ok (.getfield 278, 3) := by decide +kernel
theorem dX8_drawOutlook_64 : decode cX8_drawOutlook 64 = .ok (.iadd, 1) := by decide +kernel
theorem dX8_drawOutlook_65 : decode cX8_drawOutlook 65 = .ok (.istore 4, 2) := by decide +kernel
theorem dX8_drawOutlook_67 : decode cX8_drawOutlook 67 = .ok (.iinc 5 1, 3) := by decide +kernel
theorem dX8_drawOutlook_70 : decode cX8_drawOutlook 70 = .ok (.iload 6, 2) := by decide +kernel
theorem dX8_drawOutlook_72 : decode cX8_drawOutlook 72 = .ok (.aload 8, 2) := by decide +kernel
theorem dX8_drawOutlook_74 : decode cX8_drawOutlook 74 = .ok (.iload_n 2, 1) := by decide +kernel
theorem dX8_drawOutlook_75 : decode cX8_drawOutlook 75 = .ok (.aload_n 0, 1) := by decide +kernel
theorem dX8_drawOutlook_76 : decode cX8_drawOutlook 76 = .ok (.getfield 56, 3) := by decide +kernel
theorem dX8_drawOutlook_79 : decode cX8_drawOutlook 79 = .ok (.invokevirtual 281, 3) := by decide +kernel
theorem dX8_drawOutlook_82 : decode cX8_drawOutlook 82 = .ok (.invokestatic 284, 3) := by decide +kernel
theorem dX8_drawOutlook_85 : decode cX8_drawOutlook 85 = .ok (.istore 6, 2) := by decide +kernel
theorem dX8_drawOutlook_87 : decode cX8_drawOutlook 87 = .ok (.iinc 7 1, 3) := by decide +kernel
theorem dX8_drawOutlook_90 : decode cX8_drawOutlook 90 = .ok (.goto (-76), 3) := by decide +kernel
theorem dX8_drawOutlook_93 : decode cX8_drawOutlook 93 = .ok (.iload 5, 2) := by decide +kernel
theorem dX8_drawOutlook_95 : decode cX8_drawOutlook 95 = .ok (.ifCond .gt 5, 3) := by decide +kernel
theorem dX8_drawOutlook_98 : decode cX8_drawOutlook 98 = .ok (.iconst 0, 1) := by decide +kernel
theorem dX8_drawOutlook_99 : decode cX8_drawOutlook 99 = .ok (.ireturn, 1) := by decide +kernel
theorem dX8_drawOutlook_100 : decode cX8_drawOutlook 100 = .ok (.iload_n 3, 1) := by decide +kernel
theorem dX8_drawOutlook_101 : decode cX8_drawOutlook 101 = .ok (.iload 5, 2) := by decide +kernel
theorem dX8_drawOutlook_103 : decode cX8_drawOutlook 103 = .ok (.idiv, 1) := by decide +kernel
theorem dX8_drawOutlook_104 : decode cX8_drawOutlook 104 = .ok (.istore 7, 2) := by decide +kernel
theorem dX8_drawOutlook_106 : decode cX8_drawOutlook 106 = .ok (.iload 4, 2) := by decide +kernel
theorem dX8_drawOutlook_108 : decode cX8_drawOutlook 108 = .ok (.iload 5, 2) := by decide +kernel
theorem dX8_drawOutlook_110 : decode cX8_drawOutlook 110 = .ok (.idiv, 1) := by decide +kernel
theorem dX8_drawOutlook_111 : decode cX8_drawOutlook 111 = .ok (.istore 8, 2) := by decide +kernel
theorem dX8_drawOutlook_113 : decode cX8_drawOutlook 113 = .ok (.aload_n 0, 1) := by decide +kernel
theorem dX8_drawOutlook_114 : decode cX8_drawOutlook 114 = .ok (.getfield 35, 3) := by decide +kernel
theorem dX8_drawOutlook_117 : decode cX8_drawOutlook 117 = .ok (.iload_n 1, 1) := by decide +kernel
theorem dX8_drawOutlook_118 : decode cX8_drawOutlook 118 = .ok (.putfield 289, 3) := by decide +kernel
theorem dX8_drawOutlook_121 : decode cX8_drawOutlook 121 = .ok (.aload_n 0, 1) := by decide +kernel
theorem dX8_drawOutlook_122 : decode cX8_drawOutlook 122 = .ok (.getfield 35, 3) := by decide +kernel
theorem dX8_drawOutlook_125 : decode cX8_drawOutlook 125 = .ok (.aload_n 0, 1) := by decide +kernel
theorem dX8_drawOutlook_126 : decode cX8_drawOutlook 126 = .ok (.iload 7, 2) := by decide +kernel
theorem dX8_drawOutlook_128 : decode cX8_drawOutlook 128 = .ok (.iload 8, 2) := by decide +kernel
theorem dX8_drawOutlook_130 : decode cX8_drawOutlook 130 = .ok (.iload_n 2, 1) := by decide +kernel
theorem dX8_drawOutlook_131 : decode cX8_drawOutlook 131 = .ok (.iconst 1, 1) := by decide +kernel
theorem dX8_drawOutlook_132 : decode cX8_drawOutlook 132 = .ok (.isub, 1) := by decide +kernel
theorem dX8_drawOutlook_133 : decode cX8_drawOutlook 133 = .ok (.aload_n 0, 1) := by decide +kernel
theorem dX8_drawOutlook_134 : decode cX8_drawOutlook 134 = .ok (.getfield 56, 3) := by decide +kernel
theorem dX8_drawOutlook_137 : decode cX8_drawOutlook 137 = .ok (.invokevirtual 138, 3) := by decide +kernel
theorem dX8_drawOutlook_140 : decode cX8_drawOutlook 140 = .ok (.putfield 290, 3) := by decide +kernel
theorem dX8_drawOutlook_143 : decode cX8_drawOutlook 143 = .ok (.aload_n 0, 1) := by decide +kernel
theorem dX8_drawOutlook_144 : decode cX8_drawOutlook 144 = .ok (.getfield 35, 3) := by decide +kernel
theorem dX8_drawOutlook_147 : decode cX8_drawOutlook 147 = .ok (.aload_n 0, 1) := by decide +kernel
theorem dX8_drawOutlook_148 : decode cX8_drawOutlook 148 = .ok (.iload 7, 2) := by decide +kernel
theorem dX8_drawOutlook_150 : decode cX8_drawOutlook 150 = .ok (.iload 8, 2) := by decide +kernel
theorem dX8_drawOutlook_152 : decode cX8_drawOutlook 152 = .ok (.iload_n 2, 1) := by decide +kernel
theorem dX8_drawOutlook_153 : decode cX8_drawOutlook 153 = .ok (.aload_n 0, 1) := by decide +kernel
theorem dX8_drawOutlook_154 : decode cX8_drawOutlook 154 = .ok (.getfield 56, 3) := by decide +kernel
theorem dX8_drawOutlook_157 : decode cX8_drawOutlook 157 = .ok (.invokevirtual 138, 3) := by decide +kernel
theorem dX8_drawOutlook_160 : decode cX8_drawOutlook 160 = .ok (.putfield 293, 3) := by decide +kernel
theorem dX8_drawOutlook_163 : decode cX8_drawOutlook 163 = .ok (.aload_n 0, 1) := by decide +kernel
theorem dX8_drawOutlook_164 : decode cX8_drawOutlook 164 = .ok (.getfield 35, 3) := by decide +kernel
theorem dX8_drawOutlook_167 : decode cX8_drawOutlook 167 = .ok (.iload 6, 2) := by decide +kernel
theorem dX8_drawOutlook_169 : decode cX8_drawOutlook 169 = .ok (.putfield 294, 3) := by decide +kernel
theorem dX8_drawOutlook_172 : decode cX8_drawOutlook 172 = .ok (.iconst 1, 1) := by decide +kernel
theorem dX8_drawOutlook_173 : decode cX8_drawOutlook 173 = .ok (.ireturn, 1) := by decide +kernel
theorem dX8_sendWarnings_0 : decode cX8_sendWarnings 0 = .ok (.iconst 0, 1) := by decide +kernel
theorem dX8_sendWarnings_1 : decode cX8_sendWarnings 1 = .ok (.istore_n 2, 1) := by decide +kernel
theorem dX8_sendWarnings_2 : decode cX8_sendWarnings 2 = .ok (.iload_n 2, 1) := by decide +kernel
theorem dX8_sendWarnings_3 : decode cX8_sendWarnings 3 = .ok (.aload_n 0, 1) := by decide +kernel
theorem dX8_sendWarnings_4 : decode cX8_sendWarnings 4 = .ok (.getfield 42, 3) := by decide +kernel
theorem dX8_sendWarnings_7 : decode cX8_sendWarnings 7 = .ok (.invokevirtual 148, 3) := by decide +kernel
theorem dX8_sendWarnings_10 : decode cX8_sendWarnings 10 = .ok (.if_icmp .ge 73, 3) := by decide +kernel
theorem dX8_sendWarnings_13 : decode cX8_sendWarnings 13 = .ok (.aload_n 0, 1) := by decide +kernel
theorem dX8_sendWarnings_14 : decode cX8_sendWarnings 14 = .ok (.getfield 23, 3) := by decide +kernel
theorem dX8_sendWarnings_17 : decode cX8_sendWarnings 17 = .ok (.invokevirtual 89, 3) := by decide +kernel
theorem dX8_sendWarnings_20 : decode cX8_sendWarnings 20 = .ok (.sipush 200, 3) := by decide +kernel
theorem dX8_sendWarnings_23 : decode cX8_sendWarnings 23 = .ok (.if_icmp .ge 54, 3) := by decide +kernel
theorem dX8_sendWarnings_26 : decode cX8_sendWarnings 26 = .ok (.aload_n 0, 1) := by decide +kernel
theorem dX8_sendWarnings_27 : decode cX8_sendWarnings 27 = .ok (.getfield 42, 3) := by decide +kernel
theorem dX8_sendWarnings_30 : decode cX8_sendWarnings 30 = .ok (.iload_n 2, 1) := by decide +kernel
theorem dX8_sendWarnings_31 : decode cX8_sendWarnings 31 = .ok (.aload_n 0, 1) := by decide +kernel
theorem dX8_sendWarnings_32 : decode cX8_sendWarnings 32 = .ok (.getfield 35, 3) := by decide +kernel
theorem dX8_sendWarnings_35 : decode cX8_sendWarnings 35 = .ok (.invokevirtual 297, 3) := by decide +kernel
theorem dX8_sendWarnings_38 : decode cX8_sendWarnings 38 = .ok (.ifCond .eq 39, 3) := by decide +kernel
theorem dX8_sendWarnings_41 : decode cX8_sendWarnings 41 = .ok (.aload_n 0, 1) := by decide +kernel
theorem dX8_sendWarnings_42 : decode cX8_sendWarnings 42 = .ok (.getfield 23, 3) := by decide +kernel
theorem dX8_sendWarnings_45 : decode cX8_sendWarnings 45 = .ok (.new 198, 3) := by decide +kernel
theorem dX8_sendWarnings_48 : decode cX8_sendWarnings 48 = .ok (.dup, 1) := by decide +kernel
theorem dX8_sendWarnings_49 : decode cX8_sendWarnings 49 = .ok (.aload_n 0, 1) := by decide +kernel
theorem dX8_sendWarnings_50 : decode cX8_sendWarnings 50 = .ok (.getfield 56, 3) := by decide +kernel
theorem dX8_sendWarnings_53 : decode cX8_sendWarnings 53 = .ok (.iload_n 1, 1) := by decide +kernel
theorem dX8_sendWarnings_54 : decode cX8_sendWarnings 54 = .ok (.aload_n 0, 1) := by decide +kernel
theorem dX8_sendWarnings_55 : decode cX8_sendWarnings 55 = .ok (.getfield 42, 3) := by decide +kernel
theorem dX8_sendWarnings_58 : decode cX8_sendWarnings 58 = .ok (.iload_n 2, 1) := by decide +kernel
theorem dX8_sendWarnings_59 : decode cX8_sendWarnings 59 = .ok (.invokevirtual 301, 3) := by decide +kernel
theorem dX8_sendWarnings_62 : decode cX8_sendWarnings 62 = .ok (.iload_n 2, 1) := by decide +kernel
theorem dX8_sendWarnings_63 : decode cX8_sendWarnings 63 = .ok (.aload_n 0, 1) := by decide +kernel
theorem dX8_sendWarnings_64 : decode cX8_sendWarnings 64 = .ok (.getfield 19, 3) := by decide +kernel
theorem dX8_sendWarnings_67 : decode cX8_sendWarnings 67 = .ok (.invokevirtual 89, 3) := by decide +kernel
theorem dX8_sendWarnings_70 : decode cX8_sendWarnings 70 = .ok (.invokespecial 304, 3) := by decide +kernel
theorem dX8_sendWarnings_73 : decode cX8_sendWarnings 73 = .ok (.invokevirtual 102, 3) := by decide +kernel
theorem dX8_sendWarnings_76 : decode cX8_sendWarnings 76 = .ok (.pop, 1) := by decide +kernel
theorem dX8_sendWarnings_77 : decode cX8_sendWarnings 77 = .ok (.iinc 2 1, 3) := by decide +kernel
theorem dX8_sendWarnings_80 : decode cX8_sendWarnings 80 = .ok (.goto (-78), 3) := by decide +kernel
theorem dX8_sendWarnings_83 : decode cX8_sendWarnings 83 = .ok (.return_, 1) := by decide +kernel
theorem dX8_passHourOf_0 : decode cX8_passHourOf 0 = .ok (.aload_n 1, 1) := by decide +kernel
theorem dX8_passHourOf_1 : decode cX8_passHourOf 1 = .ok (.aload_n 0, 1) := by decide +kernel
theorem dX8_passHourOf_2 : decode cX8_passHourOf 2 = .ok (.getfield 56, 3) := by decide +kernel
theorem dX8_passHourOf_5 : decode cX8_passHourOf 5 = .ok (.invokevirtual 305, 3) := by decide +kernel
theorem dX8_passHourOf_8 : decode cX8_passHourOf 8 = .ok (.aload_n 1, 1) := by decide +kernel
theorem dX8_passHourOf_9 : decode cX8_passHourOf 9 = .ok (.aload_n 0, 1) := by decide +kernel
theorem dX8_passHourOf_10 : decode cX8_passHourOf 10 = .ok (.getfield 56, 3) := by decide +kernel
theorem dX8_passHourOf_13 : decode cX8_passHourOf 13 = .ok (.invokevirtual 308, 3) := by decide +kernel
theorem dX8_passHourOf_16 : decode cX8_passHourOf 16 = .ok (.ifCond .eq 19, 3) := by decide +kernel
theorem dX8_passHourOf_19 : decode cX8_passHourOf 19 = .ok (.aload_n 1, 1) := by decide +kernel
theorem dX8_passHourOf_20 : decode cX8_passHourOf 20 = .ok (.aload_n 0, 1) := by decide +kernel
theorem dX8_passHourOf_21 : decode cX8_passHourOf 21 = .ok (.aload_n 1, 1) := by decide +kernel
theorem dX8_passHourOf_22 : decode cX8_passHourOf 22 = .ok (.getfield 311, 3) := by decide +kernel
theorem dX8_passHourOf_25 : decode cX8_passHourOf 25 = .ok (.aload_n 0, 1) := by decide +kernel
theorem dX8_passHourOf_26 : decode cX8_passHourOf 26 = .ok (.getfield 56, 3) := by decide +kernel
theorem dX8_passHourOf_29 : decode cX8_passHourOf 29 = .ok (.invokevirtual 185, 3) := by decide +kernel
theorem dX8_passHourOf_32 : decode cX8_passHourOf 32 = .ok (.invokevirtual 315, 3) := by decide +kernel
theorem dX8_passHourOf_35 : decode cX8_passHourOf 35 = .ok (.aload_n 1, 1) := by decide +kernel
theorem dX8_passHourOf_36 : decode cX8_passHourOf 36 = .ok (.getfield 217, 3) := by decide +kernel
theorem dX8_passHourOf_39 : decode cX8_passHourOf 39 = .ok (.iconst 2, 1) := by decide +kernel
theorem dX8_passHourOf_40 : decode cX8_passHourOf 40 = .ok (.if_icmp .ne 19, 3) := by decide +kernel
theorem dX8_passHourOf_43 : decode cX8_passHourOf 43 = .ok (.aload_n 0, 1) := by decide +kernel
theorem dX8_passHourOf_44 : decode cX8_passHourOf 44 = .ok (.aload_n 1, 1) := by decide +kernel
theorem dX8_passHourOf_45 : decode cX8_passHourOf 45 = .ok (.invokevirtual 318, 3) := by decide +kernel
theorem dX8_passHourOf_48 : decode cX8_passHourOf 48 = .ok (.ifCond .eq 11, 3) := by decide +kernel
theorem dX8_passHourOf_51 : decode cX8_passHourOf 51 = .ok (.aload_n 1, 1) := by decide +kernel
theorem dX8_passHourOf_52 : decode cX8_passHourOf 52 = .ok (.aload_n 0, 1) := by decide +kernel
theorem dX8_passHourOf_53 : decode cX8_passHourOf 53 = .ok (.getfield 56, 3) := by decide +kernel
theorem dX8_passHourOf_56 : decode cX8_passHourOf 56 = .ok (.invokevirtual 322, 3) := by decide +kernel
theorem dX8_passHourOf_59 : decode cX8_passHourOf 59 = .ok (.return_, 1) := by decide +kernel
theorem dX8_isGaleTooStrong_0 : decode cX8_isGaleTooStrong 0 = .ok (.iconst 0, 1) := by decide +kernel
theorem dX8_isGaleTooStrong_1 : decode cX8_isGaleTooStrong 1 = .ok (.istore_n 2, 1) := by decide +kernel
theorem dX8_isGaleTooStrong_2 : decode cX8_isGaleTooStrong 2 = .ok (.iload_n 2, 1) := by decide +kernel
theorem dX8_isGaleTooStrong_3 : decode cX8_isGaleTooStrong 3 = .ok (.aload_n 0, 1) := by decide +kernel
theorem dX8_isGaleTooStrong_4 : decode cX8_isGaleTooStrong 4 = .ok (.getfield 26, 3) := by decide +kernel
theorem dX8_isGaleTooStrong_7 : decode cX8_isGaleTooStrong 7 = .ok (.invokevirtual 89, 3) := by decide +kernel
theorem dX8_isGaleTooStrong_10 : decode cX8_isGaleTooStrong 10 = .ok (.if_icmp .ge 53, 3) := by decide +kernel
theorem dX8_isGaleTooStrong_13 : decode cX8_isGaleTooStrong 13 = .ok (.aload_n 0, 1) := by decide +kernel
theorem dX8_isGaleTooStrong_14 : decode cX8_isGaleTooStrong 14 = .ok (.getfield 26, 3) := by decide +kernel
theorem dX8_isGaleTooStrong_17 : decode cX8_isGaleTooStrong 17 = .ok (.iload_n 2, 1) := by decide +kernel
theorem dX8_isGaleTooStrong_18 : decode cX8_isGaleTooStrong 18 = .ok (.invokevirtual 194, 3) := by decide +kernel
theorem dX8_isGaleTooStrong_21 : decode cX8_isGaleTooStrong 21 = .ok (.checkcast 156, 3) := by decide +kernel
theorem dX8_isGaleTooStrong_24 : decode cX8_isGaleTooStrong 24 = .ok (.astore_n 3, 1) := by decide +kernel
theorem dX8_isGaleTooStrong_25 : decode cX8_isGaleTooStrong 25 = .ok (.aload_n 3, 1) := by decide +kernel
theorem dX8_isGaleTooStrong_26 : decode cX8_isGaleTooStrong 26 = .ok (.getfield 325, 3) := by decide +kernel
theorem dX8_isGaleTooStrong_29 : decode cX8_isGaleTooStrong 29 = .ok (.aload_n 1, 1) := by decide +kernel
theorem dX8_isGaleTooStrong_30 : decode cX8_isGaleTooStrong 30 = .ok (.getfield 328, 3) := by decide +kernel
theorem dX8_isGaleTooStrong_33 : decode cX8_isGaleTooStrong 33 = .ok (.if_icmp .lt 24, 3) := by decide +kernel
theorem dX8_isGaleTooStrong_36 : decode cX8_isGaleTooStrong 36 = .ok (.aload_n 3, 1) := by decide +kernel
theorem dX8_isGaleTooStrong_37 : decode cX8_isGaleTooStrong 37 = .ok (.aload_n 1, 1) := by decide +kernel
theorem dX8_isGaleTooStrong_38 : decode cX8_isGaleTooStrong 38 = .ok (.getfield 311, 3) := by decide +kernel
theorem dX8_isGaleTooStrong_41 : decode cX8_isGaleTooStrong 41 = .ok (.aload_n 0, 1) := by decide +kernel
theorem dX8_isGaleTooStrong_42 : decode cX8_isGaleTooStrong 42 = .ok (.getfield 56, 3) := by decide +kernel
theorem dX8_isGaleTooStrong_45 : decode cX8_isGaleTooStrong 45 = .ok (.aload_n 0, 1) := by decide +kernel
theorem dX8_isGaleTooStrong_46 : decode cX8_isGaleTooStrong 46 = .ok (.getfield 56, 3) := by decide +kernel
theorem dX8_isGaleTooStrong_49 : decode cX8_isGaleTooStrong 49 = .ok (.invokevirtual 331, 3) := by decide +kernel
theorem dX8_isGaleTooStrong_52 : decode cX8_isGaleTooStrong 52 = .ok (.ifCond .eq 5, 3) := by decide +kernel
theorem dX8_isGaleTooStrong_55 : decode cX8_isGaleTooStrong 55 = .ok (.iconst 1, 1) := by decide +kernel
theorem dX8_isGaleTooStrong_56 : decode cX8_isGaleTooStrong 56 = .ok (.ireturn, 1) := by decide +kernel
theorem dX8_isGaleTooStrong_57 : decode cX8_isGaleTooStrong 57 = .ok (.iinc 2 1, 3) := by decide +kernel
theorem dX8_isGaleTooStrong_60 : decode cX8_isGaleTooStrong 60 = .ok (.goto (-58), 3) := by decide +kernel
theorem dX8_isGaleTooStrong_63 : decode cX8_isGaleTooStrong 63 = .ok (.iconst 0, 1) := by decide +kernel
theorem dX8_isGaleTooStrong_64 : decode cX8_isGaleTooStrong 64 = .ok (.ireturn, 1) := by decide +kernel
theorem dX8_flagsSeen_0 : decode cX8_flagsSeen 0 = .ok (.iconst 0, 1) := by decide +kernel
theorem dX8_flagsSeen_1 : decode cX8_flagsSeen 1 = .ok (.istore_n 3, 1) := by decide +kernel
theorem dX8_flagsSeen_2 : decode cX8_flagsSeen 2 = .ok (.iconst 0, 1) := by decide +kernel
theorem dX8_flagsSeen_3 : decode cX8_flagsSeen 3 = .ok (.istore 4, 2) := by decide +kernel
theorem dX8_flagsSeen_5 : decode cX8_flagsSeen 5 = .ok (.iload 4, 2) := by decide +kernel
theorem dX8_flagsSeen_7 : decode cX8_flagsSeen 7 = .ok (.aload_n 0, 1) := by decide +kernel
theorem dX8_flagsSeen_8 : decode cX8_flagsSeen 8 = .ok (.getfield 23, 3) := by decide +kernel
theorem dX8_flagsSeen_11 : decode cX8_flagsSeen 11 = .ok (.invokevirtual 89, 3) := by decide +kernel
theorem dX8_flagsSeen_14 : decode cX8_flagsSeen 14 = .ok (.if_icmp .ge 68, 3) := by decide +kernel
theorem dX8_flagsSeen_17 : decode cX8_flagsSeen 17 = .ok (.aload_n 0, 1) := by decide +kernel
theorem dX8_flagsSeen_18 : decode cX8_flagsSeen 18 = .ok (.getfield 23, 3) := by decide +kernel
theorem dX8_flagsSeen_21 : decode cX8_flagsSeen 21 = .ok (.iload 4, 2) := by decide +kernel
theorem dX8_flagsSeen_23 : decode cX8_flagsSeen 23 = .ok (.invokevirtual 194, 3) := by decide +kernel
theorem dX8_flagsSeen_26 : decode cX8_flagsSeen 26 = .ok (.checkcast 198, 3) := by decide +kernel
theorem dX8_flagsSeen_29 : decode cX8_flagsSeen 29 = .ok (.astore 5, 2) := by decide +kernel
theorem dX8_flagsSeen_31 : decode cX8_flagsSeen 31 = .ok (.aload 5, 2) := by decide +kernel
theorem dX8_flagsSeen_33 : decode cX8_flagsSeen 33 = .ok (.aload_n 1, 1) := by decide +kernel
theorem dX8_flagsSeen_34 : decode cX8_flagsSeen 34 = .ok (.invokevirtual 335, 3) := by decide +kernel
theorem dX8_flagsSeen_37 : decode cX8_flagsSeen 37 = .ok (.ifCond .eq 39, 3) := by decide +kernel
theorem dX8_flagsSeen_40 : decode cX8_flagsSeen 40 = .ok (.iload_n 2, 1) := by decide +kernel
theorem dX8_flagsSeen_41 : decode cX8_flagsSeen 41 = .ok (.aload 5, 2) := by decide +kernel
theorem dX8_flagsSeen_43 : decode cX8_flagsSeen 43 = .ok (.aload_n 1, 1) := by decide +kernel
theorem dX8_flagsSeen_44 : decode cX8_flagsSeen 44 = .ok (.invokevirtual 339, 3) := by decide +kernel
theorem dX8_flagsSeen_47 : decode cX8_flagsSeen 47 = .ok (.aload 5, 2) := by decide +kernel
theorem dX8_flagsSeen_49 : decode cX8_flagsSeen 49 = .ok (.aload_n 1, 1) := by decide +kernel
theorem dX8_flagsSeen_50 : decode cX8_flagsSeen 50 = .ok (.invokevirtual 342, 3) := by decide +kernel
theorem dX8_flagsSeen_53 : decode cX8_flagsSeen 53 = .ok (.invokestatic 78, 3) := by decide +kernel
theorem dX8_flagsSeen_56 : decode cX8_flagsSeen 56 = .ok (.ifCond .eq 20, 3) := by decide +kernel
theorem dX8_flagsSeen_59 : decode cX8_flagsSeen 59 = .ok (.iload_n 3, 1) := by decide +kernel
theorem dX8_flagsSeen_60 : decode cX8_flagsSeen 60 = .ok (.aload 5, 2) := by decide +kernel
theorem dX8_flagsSeen_62 : decode cX8_flagsSeen 62 = .ok (.getfield 206, 3) := by decide +kernel
theorem dX8_flagsSeen_65 : decode cX8_flagsSeen 65 = .ok (.iconst 1, 1) := by decide +kernel
theorem dX8_flagsSeen_66 : decode cX8_flagsSeen 66 = .ok (.if_icmp .ne 7, 3) := by decide +kernel
theorem dX8_flagsSeen_69 : decode cX8_flagsSeen 69 = .ok (.iconst 2, 1) := by decide +kernel
theorem dX8_flagsSeen_70 : decode cX8_flagsSeen 70 = .ok (.goto 4, 3) := by decide +kernel
theorem dX8_flagsSeen_73 : decode cX8_flagsSeen 73 = .ok (.iconst 1, 1) := by decide +kernel
theorem dX8_flagsSeen_74 : decode cX8_flagsSeen 74 = .ok (.ior, 1) := by decide +kernel
theorem dX8_flagsSeen_75 : decode cX8_flagsSeen 75 = .ok (.istore_n 3, 1) := by decide +kernel
theorem dX8_flagsSeen_76 : decode cX8_flagsSeen 76 = .ok (.iinc 4 1, 3) := by decide +kernel
theorem dX8_flagsSeen_79 : decode cX8_flagsSeen 79 = .ok (.goto (-74), 3) := by decide +kernel
theorem dX8_flagsSeen_82 : decode cX8_flagsSeen 82 = .ok (.iload_n 3, 1) := by decide +kernel
theorem dX8_flagsSeen_83 : decode cX8_flagsSeen 83 = .ok (.ireturn, 1) := by decide +kernel
theorem dX8_galesBegun_0 : decode cX8_galesBegun 0 = .ok (.iconst 0, 1) := by decide +kernel
theorem dX8_galesBegun_1 : decode cX8_galesBegun 1 = .ok (.istore_n 3, 1) := by decide +kernel
theorem dX8_galesBegun_2 : decode cX8_galesBegun 2 = .ok (.iconst 0, 1) := by decide +kernel
theorem dX8_galesBegun_3 : decode cX8_galesBegun 3 = .ok (.istore 4, 2) := by decide +kernel
theorem dX8_galesBegun_5 : decode cX8_galesBegun 5 = .ok (.iload 4, 2) := by decide +kernel
theorem dX8_galesBegun_7 : decode cX8_galesBegun 7 = .ok (.aload_n 0, 1) := by decide +kernel
theorem dX8_galesBegun_8 : decode cX8_galesBegun 8 = .ok (.getfield 26, 3) := by decide +kernel
theorem dX8_galesBegun_11 : decode cX8_galesBegun 11 = .ok (.invokevirtual 89, 3) := by decide +kernel
theorem dX8_galesBegun_14 : decode cX8_galesBegun 14 = .ok (.if_icmp .ge 72, 3) := by decide +kernel
theorem dX8_galesBegun_17 : decode cX8_galesBegun 17 = .ok (.aload_n 0, 1) := by decide +kernel
theorem dX8_galesBegun_18 : decode cX8_galesBegun 18 = .ok (.getfield 26, 3) := by decide +kernel
theorem dX8_galesBegun_21 : decode cX8_galesBegun 21 = .ok (.iload 4, 2) := by decide +kernel
theorem dX8_galesBegun_23 : decode cX8_galesBegun 23 = .ok (.invokevirtual 194, 3) := by decide +kernel
theorem dX8_galesBegun_26 : decode cX8_galesBegun 26 = .ok (.checkcast 156, 3) := by decide +kernel
theorem dX8_galesBegun_29 : decode cX8_galesBegun 29 = .ok (.astore 5, 2) := by decide +kernel
theorem dX8_galesBegun_31 : decode cX8_galesBegun 31 = .ok (.aload 5, 2) := by decide +kernel
theorem dX8_galesBegun_33 : decode cX8_galesBegun 33 = .ok (.getfield 345, 3) := by decide +kernel
theorem dX8_galesBegun_36 : decode cX8_galesBegun 36 = .ok (.aload_n 1, 1) := by decide +kernel
theorem dX8_galesBegun_37 : decode cX8_galesBegun 37 = .ok (.getfield 158, 3) := by decide +kernel
theorem dX8_galesBegun_40 : decode cX8_galesBegun 40 = .ok (.if_icmp .ne 40, 3) := by decide +kernel
theorem dX8_galesBegun_43 : decode cX8_galesBegun 43 = .ok (.aload 5, 2) := by decide +kernel
theorem dX8_galesBegun_45 : decode cX8_galesBegun 45 = .ok (.getfield 348, 3) := by decide +kernel
theorem dX8_galesBegun_48 : decode cX8_galesBegun 48 = .ok (.aload_n 0, 1) := by decide +kernel
theorem dX8_galesBegun_49 : decode cX8_galesBegun 49 = .ok (.getfield 56, 3) := by decide +kernel
theorem dX8_galesBegun_52 : decode cX8_galesBegun 52 = .ok (.if_icmp .gt 28, 3) := by decide +kernel
theorem dX8_galesBegun_55 : decode cX8_galesBegun 55 = .ok (.aload_n 0, 1) := by decide +kernel
theorem dX8_galesBegun_56 : decode cX8_galesBegun 56 = .ok (.aload_n 1, 1) := by decide +kernel
theorem dX8_galesBegun_57 : decode cX8_galesBegun 57 = .ok (.aload 5, 2) := by decide +kernel
theorem dX8_galesBegun_59 : decode cX8_galesBegun 59 = .ok (.getfield 348, 3) := by decide +kernel
theorem dX8_galesBegun_62 : decode cX8_galesBegun 62 = .ok (.invokevirtual 185, 3) := by decide +kernel
theorem dX8_galesBegun_65 : decode cX8_galesBegun 65 = .ok (.ifCond .eq 7, 3) := by decide +kernel
theorem dX8_galesBegun_68 : decode cX8_galesBegun 68 = .ok (.iconst 1, 1) := by decide +kernel
theorem dX8_galesBegun_69 : decode cX8_galesBegun 69 = .ok (.goto 4, 3) := by decide +kernel
theorem dX8_galesBegun_72 : decode cX8_galesBegun 72 = .ok (.iconst 0, 1) := by decide +kernel
theorem dX8_galesBegun_73 : decode cX8_galesBegun 73 = .ok (.iload_n 2, 1) := by decide +kernel
theorem dX8_galesBegun_74 : decode cX8_galesBegun 74 = .ok (.if_icmp .ne 6, 3) := by decide +kernel
theorem dX8_galesBegun_77 : decode cX8_galesBegun 77 = .ok (.iinc 3 1, 3) := by decide +kernel
theorem dX8_galesBegun_80 : decode cX8_galesBegun 80 = .ok (.iinc 4 1, 3) := by decide +kernel
theorem dX8_galesBegun_83 : decode cX8_galesBegun 83 = .ok (.goto (-78), 3) := by decide +kernel
theorem dX8_galesBegun_86 : decode cX8_galesBegun 86 = .ok (.iload_n 3, 1) := by decide +kernel
theorem dX8_galesBegun_87 : decode cX8_galesBegun 87 = .ok (.ireturn, 1) := by decide +kernel
theorem dX8_warningsArrived_0 : decode cX8_warningsArrived 0 = .ok (.iconst 0, 1) := by decide +kernel
theorem dX8_warningsArrived_1 : decode cX8_warningsArrived 1 = .ok (.istore_n 2, 1) := by decide +kernel
theorem dX8_warningsArrived_2 : decode cX8_warningsArrived 2 = .ok (.iconst 0, 1) := by decide +kernel
theorem dX8_warningsArrived_3 : decode cX8_warningsArrived 3 = .ok (.istore_n 3, 1) := by decide +kernel
theorem dX8_warningsArrived_4 : decode cX8_warningsArrived 4 = .ok (.iload_n 3, 1) := by decide +kernel
theorem dX8_warningsArrived_5 : decode cX8_warningsArrived 5 = .ok (.aload_n 0, 1) := by decide +kernel
theorem dX8_warningsArrived_6 : decode cX8_warningsArrived 6 = .ok (.getfield 23, 3) := by decide +kernel
theorem dX8_warningsArrived_9 : decode cX8_warningsArrived 9 = .ok (.invokevirtual 89, 3) := by decide +kernel
theorem dX8_warningsArrived_12 : decode cX8_warningsArrived 12 = .ok (.if_icmp .ge 47, 3) := by decide +kernel
theorem dX8_warningsArrived_15 : decode cX8_warningsArrived 15 = .ok (.aload_n 0, 1) := by decide +kernel
theorem dX8_warningsArrived_16 : decode cX8_warningsArrived 16 = .ok (.getfield 23, 3) := by decide +kernel
theorem dX8_warningsArrived_19 : decode cX8_warningsArrived 19 = .ok (.iload_n 3, 1) := by decide +kernel
theorem dX8_warningsArrived_20 : decode cX8_warningsArrived 20 = .ok (.invokevirtual 194, 3) := by decide +kernel
theorem dX8_warningsArrived_23 : decode cX8_warningsArrived 23 = .ok (.checkcast 198, 3) := by decide +kernel
theorem dX8_warningsArrived_26 : decode cX8_warningsArrived 26 = .ok (.astore 4, 2) := by decide +kernel
theorem dX8_warningsArrived_28 : decode cX8_warningsArrived 28 = .ok (.aload 4, 2) := by decide +kernel
theorem dX8_warningsArrived_30 : decode cX8_warningsArrived 30 = .ok (.aload_n 1, 1) := by decide +kernel
theorem dX8_warningsArrived_31 : decode cX8_warningsArrived 31 = .ok (.invokevirtual 335, 3) := by decide +kernel
theorem dX8_warningsArrived_34 : decode cX8_warningsArrived 34 = .ok (.ifCond .eq 19, 3) := by decide +kernel
theorem dX8_warningsArrived_37 : decode cX8_warningsArrived 37 = .ok (.aload 4, 2) := by decide +kernel
theorem dX8_warningsArrived_39 : decode cX8_warningsArrived 39 = .ok (.aload_n 1, 1) := by decide +kernel
theorem dX8_warningsArrived_40 : decode cX8_warningsArrived 40 = .ok (.invokevirtual 339, 3) := by decide +kernel
theorem dX8_warningsArrived_43 : decode cX8_warningsArrived 43 = .ok (.aload_n 0, 1) := by decide +kernel
theorem dX8_warningsArrived_44 : decode cX8_warningsArrived 44 = .ok (.getfield 56, 3) := by decide +kernel
theorem dX8_warningsArrived_47 : decode cX8_warningsArrived 47 = .ok (.if_icmp .gt 6, 3) := by decide +kernel
theorem dX8_warningsArrived_50 : decode cX8_warningsArrived 50 = .ok (.iinc 2 1, 3) := by decide +kernel
theorem dX8_warningsArrived_53 : decode cX8_warningsArrived 53 = .ok (.iinc 3 1, 3) := by decide +kernel
theorem dX8_warningsArrived_56 : decode cX8_warningsArrived 56 = .ok (.goto (-52), 3) := by decide +kernel
theorem dX8_warningsArrived_59 : decode cX8_warningsArrived 59 = .ok (.iload_n 2, 1) := by decide +kernel
theorem dX8_warningsArrived_60 : decode cX8_warningsArrived 60 = .ok (.ireturn, 1) := by decide +kernel
theorem dX8_warningsInVain_0 : decode cX8_warningsInVain 0 = .ok (.iconst 0, 1) := by decide +kernel
theorem dX8_warningsInVain_1 : decode cX8_warningsInVain 1 = .ok (.istore_n 2, 1) := by decide +kernel
theorem dX8_warningsInVain_2 : decode cX8_warningsInVain 2 = .ok (.iconst 0, 1) := by decide +kernel
theorem dX8_warningsInVain_3 : decode cX8_warningsInVain 3 = .ok (.istore_n 3, 1) := by decide +kernel
theorem dX8_warningsInVain_4 : decode cX8_warningsInVain 4 = .ok (.iload_n 3, 1) := by decide +kernel
theorem dX8_warningsInVain_5 : decode cX8_warningsInVain 5 = .ok (.aload_n 0, 1) := by decide +kernel
theorem dX8_warningsInVain_6 : decode cX8_warningsInVain 6 = .ok (.getfield 23, 3) := by decide +kernel
theorem dX8_warningsInVain_9 : decode cX8_warningsInVain 9 = .ok (.invokevirtual 89, 3) := by decide +kernel
theorem dX8_warningsInVain_12 : decode cX8_warningsInVain 12 = .ok (.if_icmp .ge 67, 3) := by decide +kernel
theorem dX8_warningsInVain_15 : decode cX8_warningsInVain 15 = .ok (.aload_n 0, 1) := by decide +kernel
theorem dX8_warningsInVain_16 : decode cX8_warningsInVain 16 = .ok (.getfield 23, 3) := by decide +kernel
theorem dX8_warningsInVain_19 : decode cX8_warningsInVain 19 = .ok (.iload_n 3, 1) := by decide +kernel
theorem dX8_warningsInVain_20 : decode cX8_warningsInVain 20 = .ok (.invokevirtual 194, 3) := by decide +kernel
theorem dX8_warningsInVain_23 : decode cX8_warningsInVain 23 = .ok (.checkcast 198, 3) := by decide +kernel
theorem dX8_warningsInVain_26 : decode cX8_warningsInVain 26 = .ok (.astore 4, 2) := by decide +kernel
theorem dX8_warningsInVain_28 : decode cX8_warningsInVain 28 = .ok (.aload 4, 2) := by decide +kernel
theorem dX8_warningsInVain_30 : decode cX8_warningsInVain 30 = .ok (.aload_n 1, 1) := by decide +kernel
theorem dX8_warningsInVain_31 : decode cX8_warningsInVain 31 = .ok (.invokevirtual 335, 3) := by decide +kernel
theorem dX8_warningsInVain_34 : decode cX8_warningsInVain 34 = .ok (.ifCond .eq 39, 3) := by decide +kernel
theorem dX8_warningsInVain_37 : decode cX8_warningsInVain 37 = .ok (.aload 4, 2) := by decide +kernel
theorem dX8_warningsInVain_39 : decode cX8_warningsInVain 39 = .ok (.aload_n 1, 1) := by decide +kernel
theorem dX8_warningsInVain_40 : decode cX8_warningsInVain 40 = .ok (.invokevirtual 342, 3) := by decide +kernel
theorem dX8_warningsInVain_43 : decode cX8_warningsInVain 43 = .ok (.aload_n 0, 1) := by decide +kernel
theorem dX8_warningsInVain_44 : decode cX8_warningsInVain 44 = .ok (.getfield 56, 3) := by decide +kernel
theorem dX8_warningsInVain_47 : decode cX8_warningsInVain 47 = .ok (.if_icmp .ge 26, 3) := by decide +kernel
theorem dX8_warningsInVain_50 : decode cX8_warningsInVain 50 = .ok (.aload_n 0, 1) := by decide +kernel
theorem dX8_warningsInVain_51 : decode cX8_warningsInVain 51 = .ok (.aload_n 1, 1) := by decide +kernel
theorem dX8_warningsInVain_52 : decode cX8_warningsInVain 52 = .ok (.aload 4, 2) := by decide +kernel
theorem dX8_warningsInVain_54 : decode cX8_warningsInVain 54 = .ok (.aload_n 1, 1) := by decide +kernel
theorem dX8_warningsInVain_55 : decode cX8_warningsInVain 55 = .ok (.invokevirtual 339, 3) := by decide +kernel
theorem dX8_warningsInVain_58 : decode cX8_warningsInVain 58 = .ok (.aload 4, 2) := by decide +kernel
theorem dX8_warningsInVain_60 : decode cX8_warningsInVain 60 = .ok (.aload_n 1, 1) := by decide +kernel
theorem dX8_warningsInVain_61 : decode cX8_warningsInVain 61 = .ok (.invokevirtual 342, 3) := by decide +kernel
theorem dX8_warningsInVain_64 : decode cX8_warningsInVain 64 = .ok (.invokevirtual 351, 3) := by decide +kernel
theorem dX8_warningsInVain_67 : decode cX8_warningsInVain 67 = .ok (.ifCond .ne 6, 3) := by decide +kernel
theorem dX8_warningsInVain_70 : decode cX8_warningsInVain 70 = .ok (.iinc 2 1, 3) := by decide +kernel
theorem dX8_warningsInVain_73 : decode cX8_warningsInVain 73 = .ok (.iinc 3 1, 3) := by decide +kernel
theorem dX8_warningsInVain_76 : decode cX8_warningsInVain 76 = .ok (.goto (-72), 3) := by decide +kernel
theorem dX8_warningsInVain_79 : decode cX8_warningsInVain 79 = .ok (.iload_n 2, 1) := by decide +kernel
theorem dX8_warningsInVain_80 : decode cX8_warningsInVain 80 = .ok (.ireturn, 1) := by decide +kernel
theorem dX8_blowsAtAll_0 : decode cX8_blowsAtAll 0 = .ok (.iconst 0, 1) := by decide +kernel
theorem dX8_blowsAtAll_1 : decode cX8_blowsAtAll 1 = .ok (.istore 4, 2) := by decide +kernel
theorem dX8_blowsAtAll_3 : decode cX8_blowsAtAll 3 = .ok (.iload 4, 2) := by decide +kernel
theorem dX8_blowsAtAll_5 : decode cX8_blowsAtAll 5 = .ok (.aload_n 0, 1) := by decide +kernel
theorem dX8_blowsAtAll_6 : decode cX8_blowsAtAll 6 = .ok (.getfield 26, 3) := by decide +kernel
theorem dX8_blowsAtAll_9 : decode cX8_blowsAtAll 9 = .ok (.invokevirtual 89, 3) := by decide +kernel
theorem dX8_blowsAtAll_12 : decode cX8_blowsAtAll 12 = .ok (.if_icmp .ge 32, 3) := by decide +kernel
theorem dX8_blowsAtAll_15 : decode cX8_blowsAtAll 15 = .ok (.aload_n 0, 1) := by decide +kernel
theorem dX8_blowsAtAll_16 : decode cX8_blowsAtAll 16 = .ok (.getfield 26, 3) := by decide +kernel
theorem dX8_blowsAtAll_19 : decode cX8_blowsAtAll 19 = .ok (.iload 4, 2) := by decide +kernel
theorem dX8_blowsAtAll_21 : decode cX8_blowsAtAll 21 = .ok (.invokevirtual 194, 3) := by decide +kernel
theorem dX8_blowsAtAll_24 : decode cX8_blowsAtAll 24 = .ok (.checkcast 156, 3) := by decide +kernel
theorem dX8_blowsAtAll_27 : decode cX8_blowsAtAll 27 = .ok (.aload_n 1, 1) := by decide +kernel
theorem dX8_blowsAtAll_28 : decode cX8_blowsAtAll 28 = .ok (.iload_n 2, 1) := by decide +kernel
theorem dX8_blowsAtAll_29 : decode cX8_blowsAtAll 29 = .ok (.iload_n 3, 1) := by decide +kernel
theorem dX8_blowsAtAll_30 : decode cX8_blowsAtAll 30 = .ok (.invokevirtual 331, 3) := by decide +kernel
theorem dX8_blowsAtAll_33 : decode cX8_blowsAtAll 33 = .ok (.ifCond .eq 5, 3) := by decide +kernel
theorem dX8_blowsAtAll_36 : decode cX8_blowsAtAll 36 = .ok (.iconst 1, 1) := by decide +kernel
theorem dX8_blowsAtAll_37 : decode cX8_blowsAtAll 37 = .ok (.ireturn, 1) := by decide +kernel
theorem dX8_blowsAtAll_38 : decode cX8_blowsAtAll 38 = .ok (.iinc 4 1, 3) := by decide +kernel
theorem dX8_blowsAtAll_41 : decode cX8_blowsAtAll 41 = .ok (.goto (-38), 3) := by decide +kernel
theorem dX8_blowsAtAll_44 : decode cX8_blowsAtAll 44 = .ok (.iconst 0, 1) := by decide +kernel
theorem dX8_blowsAtAll_45 : decode cX8_blowsAtAll 45 = .ok (.ireturn, 1) := by decide +kernel
theorem dX8_boatsThatAre_0 : decode cX8_boatsThatAre 0 = .ok (.iconst 0, 1) := by decide +kernel
theorem dX8_boatsThatAre_1 : decode cX8_boatsThatAre 1 = .ok (.istore_n 2, 1) := by decide +kernel
theorem dX8_boatsThatAre_2 : decode cX8_boatsThatAre 2 = .ok (.iconst 0, 1) := by decide +kernel
theorem dX8_boatsThatAre_3 : decode cX8_boatsThatAre 3 = .ok (.istore_n 3, 1) := by decide +kernel
theorem dX8_boatsThatAre_4 : decode cX8_boatsThatAre 4 = .ok (.iload_n 3, 1) := by decide +kernel
theorem dX8_boatsThatAre_5 : decode cX8_boatsThatAre 5 = .ok (.aload_n 0, 1) := by decide +kernel
theorem dX8_boatsThatAre_6 : decode cX8_boatsThatAre 6 = .ok (.getfield 29, 3) := by decide +kernel
theorem dX8_boatsThatAre_9 : decode cX8_boatsThatAre 9 = .ok (.invokevirtual 89, 3) := by decide +kernel
theorem dX8_boatsThatAre_12 : decode cX8_boatsThatAre 12 = .ok (.if_icmp .ge 30, 3) := by decide +kernel
theorem dX8_boatsThatAre_15 : decode cX8_boatsThatAre 15 = .ok (.aload_n 0, 1) := by decide +kernel
theorem dX8_boatsThatAre_16 : decode cX8_boatsThatAre 16 = .ok (.getfield 29, 3) := by decide +kernel
theorem dX8_boatsThatAre_19 : decode cX8_boatsThatAre 19 = .ok (.iload_n 3, 1) := by decide +kernel
theorem dX8_boatsThatAre_20 : decode cX8_boatsThatAre 20 = .ok (.invokevirtual 194, 3) := by decide +kernel
theorem dX8_boatsThatAre_23 : decode cX8_boatsThatAre 23 = .ok (.checkcast 166, 3) := by decide +kernel
theorem dX8_boatsThatAre_26 : decode cX8_boatsThatAre 26 = .ok (.getfield 217, 3) := by decide +kernel
theorem dX8_boatsThatAre_29 : decode cX8_boatsThatAre 29 = .ok (.iload_n 1, 1) := by decide +kernel
theorem dX8_boatsThatAre_30 : decode cX8_boatsThatAre 30 = .ok (.if_icmp .ne 6, 3) := by decide +kernel
theorem dX8_boatsThatAre_33 : decode cX8_boatsThatAre 33 = .ok (.iinc 2 1, 3) := by decide +kernel
theorem dX8_boatsThatAre_36 : decode cX8_boatsThatAre 36 = .ok (.iinc 3 1, 3) := by decide +kernel
theorem dX8_boatsThatAre_39 : decode cX8_boatsThatAre 39 = .ok (.goto (-35), 3) := by decide +kernel
theorem dX8_boatsThatAre_42 : decode cX8_boatsThatAre 42 = .ok (.iload_n 2, 1) := by decide +kernel
theorem dX8_boatsThatAre_43 : decode cX8_boatsThatAre 43 = .ok (.ireturn, 1) := by decide +kernel
theorem dX9_init_0 : decode cX9_init 0 = .ok (.aload_n 0, 1) := by decide +kernel
theorem dX9_init_1 : decode cX9_init 1 = .ok (.invokespecial 1, 3) := by decide +kernel
theorem dX9_init_4 : decode cX9_init 4 = .ok (.aload_n 0, 1) := by decide +kernel
theorem dX9_init_5 : decode cX9_init 5 = .ok (.bipush 12, 2) := by decide +kernel
theorem dX9_init_7 : decode cX9_init 7 = .ok (.newarray .int, 2) := by decide +kernel
theorem dX9_init_9 : decode cX9_init 9 = .ok (.putfield 9, 3) := by decide +kernel
theorem dX9_init_12 : decode cX9_init 12 = .ok (.aload_n 0, 1) := by decide +kernel
theorem dX9_init_13 : decode cX9_init 13 = .ok (.bipush 12, 2) := by decide +kernel
theorem dX9_init_15 : decode cX9_init 15 = .ok (.newarray .int, 2) := by decide +kernel
theorem dX9_init_17 : decode cX9_init 17 = .ok (.putfield 13, 3) := by decide +kernel
theorem dX9_init_20 : decode cX9_init 20 = .ok (.aload_n 0, 1) := by decide +kernel
theorem dX9_init_21 : decode cX9_init 21 = .ok (.bipush 12, 2) := by decide +kernel
theorem dX9_init_23 : decode cX9_init 23 = .ok (.newarray .int, 2) := by decide +kernel
theorem dX9_init_25 : decode cX9_init 25 = .ok (.putfield 16, 3) := by decide +kernel
theorem dX9_init_28 : decode cX9_init 28 = .ok (.aload_n 0, 1) := by decide +kernel
theorem dX9_init_29 : decode cX9_init 29 = .ok (.bipush 12, 2) := by decide +kernel
theorem dX9_init_31 : decode cX9_init 31 = .ok (.newarray .int, 2) := by decide +kernel
theorem dX9_init_33 : decode cX9_init 33 = .ok (.putfield 19, 3) := by decide +kernel
theorem dX9_init_36 : decode cX9_init 36 = .ok (.aload_n 0, 1) := by decide +kernel
theorem dX9_init_37 : decode cX9_init 37 = .ok (.sipush 300, 3) := by decide +kernel
theorem dX9_init_40 : decode cX9_init 40 = .ok (.newarray .int, 2) := by decide +kernel
theorem dX9_init_42 : decode cX9_init 42 = .ok (.putfield 22, 3) := by decide +kernel
theorem dX9_init_45 : decode cX9_init 45 = .ok (.aload_n 0, 1) := by decide +kernel
theorem dX9_init_46 : decode cX9_init 46 = .ok (.sipush 300, 3) := by decide +kernel
theorem dX9_init_49 : decode cX9_init 49 = .ok (.newarray .int, 2) := by decide +kernel
theorem dX9_init_51 : decode cX9_init 51 = .ok (.putfield 25, 3) := by decide +kernel
theorem dX9_init_54 : decode cX9_init 54 = .ok (.aload_n 0, 1) := by decide +kernel
theorem dX9_init_55 : decode cX9_init 55 = .ok (.sipush 300, 3) := by decide +kernel
theorem dX9_init_58 : decode cX9_init 58 = .ok (.newarray .int, 2) := by decide +kernel
theorem dX9_init_60 : decode cX9_init 60 = .ok (.putfield 28, 3) := by decide +kernel
theorem dX9_init_63 : decode cX9_init 63 = .ok (.aload_n 0, 1) := by decide +kernel
theorem dX9_init_64 : decode cX9_init 64 = .ok (.sipush 300, 3) := by decide +kernel
theorem dX9_init_67 : decode cX9_init 67 = .ok (.newarray .int, 2) := by decide +kernel
theorem dX9_init_69 : decode cX9_init 69 = .ok (.putfield 31, 3) := by decide +kernel
theorem dX9_init_72 : decode cX9_init 72 = .ok (.aload_n 0, 1) := by decide +kernel
theorem dX9_init_73 : decode cX9_init 73 = .ok (.sipush 300, 3) := by decide +kernel
theorem dX9_init_76 : decode cX9_init 76 = .ok (.newarray .int, 2) := by decide +kernel
theorem dX9_init_78 : decode cX9_init 78 = .ok (.putfield 34, 3) := by decide +kernel
theorem dX9_init_81 : decode cX9_init 81 = .ok (.aload_n 0, 1) := by decide +kernel
theorem dX9_init_82 : decode cX9_init 82 = .ok (.bipush 16, 2) := by decide +kernel
theorem dX9_init_84 : decode cX9_init 84 = .ok (.newarray .int, 2) := by decide +kernel
theorem dX9_init_86 : decode cX9_init 86 = .ok (.putfield 37, 3) := by decide +kernel
theorem dX9_init_89 : decode cX9_init 89 = .ok (.aload_n 0, 1) := by decide +kernel
theorem dX9_init_90 : decode cX9_init 90 = .ok (.bipush 16, 2) := by decide +kernel
theorem dX9_init_92 : decode cX9_init 92 = .ok (.newarray .int, 2) := by decide +kernel
theorem dX9_init_94 : decode cX9_init 94 = .ok (.putfield 40, 3) := by decide +kernel
theorem dX9_init_97 : decode cX9_init 97 = .ok (.aload_n 0, 1) := by decide +kernel
theorem dX9_init_98 : decode cX9_init 98 = .ok (.bipush 64, 2) := by decide +kernel
theorem dX9_init_100 : decode cX9_init 100 = .ok (.newarray .int, 2) := by decide +kernel
theorem dX9_init_102 : decode cX9_init 102 = .ok (.putfield 43, 3) := by decide +kernel
theorem dX9_init_105 : decode cX9_init 105 = .ok (.aload_n 0, 1) := by decide +kernel
theorem dX9_init_106 : decode cX9_init 106 = .ok (.bipush 64, 2) := by decide +kernel
theorem dX9_init_108 : decode cX9_init 108 = .ok (.newarray .int, 2) := by decide +kernel
theorem dX9_init_110 : decode cX9_init 110 = .ok (.putfield 46, 3) := by decide +kernel
theorem dX9_init_113 : decode cX9_init 113 = .ok (.aload_n 0, 1) := by decide +kernel
theorem dX9_init_114 : decode cX9_init 114 = .ok (.sipush 400, 3) := by decide +kernel
theorem dX9_init_117 : decode cX9_init 117 = .ok (.newarray .byte, 2) := by decide +kernel
theorem dX9_init_119 : decode cX9_init 119 = .ok (.putfield 49, 3) := by decide +kernel
theorem dX9_init_122 : decode cX9_init 122 = .ok (.aload_n 0, 1) := by decide +kernel
theorem dX9_init_123 : decode cX9_init 123 = .ok (.iconst (-1), 1) := by decide +kernel
theorem dX9_init_124 : decode cX9_init 124 = .ok (.putfield 53, 3) := by decide +kernel
theorem dX9_init_127 : decode cX9_init 127 = .ok (.aload_n 0, 1) := by decide +kernel
theorem dX9_init_128 : decode cX9_init 128 = .ok (.iconst 5, 1) := by decide +kernel
theorem dX9_init_129 : decode cX9_init 129 = .ok (.newarray .int, 2) := by decide +kernel
theorem dX9_init_131 : decode cX9_init 131 = .ok (.putfield 57, 3) := by decide +kernel
theorem dX9_init_134 : decode cX9_init 134 = .ok (.aload_n 0, 1) := by decide +kernel
theorem dX9_init_135 : decode cX9_init 135 = .ok (.sipush 1000, 3) := by decide +kernel
theorem dX9_init_138 : decode cX9_init 138 = .ok (.newarray .int, 2) := by decide +kernel
theorem dX9_init_140 : decode cX9_init 140 = .ok (.putfield 60, 3) := by decide +kernel
theorem dX9_init_143 : decode cX9_init 143 = .ok (.aload_n 0, 1) := by decide +kernel
theorem dX9_init_144 : decode cX9_init 144 = .ok (.bipush 30, 2) := by decide +kernel
theorem dX9_init_146 : decode cX9_init 146 = .ok (.newarray .int, 2) := by decide +kernel
theorem dX9_init_148 : decode cX9_init 148 = .ok (.putfield 63, 3) := by decide +kernel
theorem dX9_init_151 : decode cX9_init 151 = .ok (.aload_n 0, 1) := by decide +kernel
theorem dX9_init_152 : decode cX9_init 152 = .ok (.bipush 30, 2) := by decide +kernel
theorem dX9_init_154 : decode cX9_init 154 = .ok (.newarray .int, 2) := by decide +kernel
theorem dX9_init_156 : decode cX9_init 156 = .ok (.putfield 66, 3) := by decide +kernel
theorem dX9_init_159 : decode cX9_init 159 = .ok (.aload_n 0, 1) := by decide +kernel
theorem dX9_init_160 : decode cX9_init 160 = .ok (.bipush 30, 2) := by decide +kernel
theorem dX9_init_162 : decode cX9_init 162 = .ok (.newarray .int, 2) := by decide +kernel
theorem dX9_init_164 : decode cX9_init 164 = .ok (.putfield 69, 3) := by decide +kernel
theorem dX9_init_167 : decode cX9_init 167 = .ok (.aload_n 0, 1) := by decide +kernel
theorem dX9_init_168 : decode cX9_init 168 = .ok (.bipush 30, 2) := by decide +kernel
theorem dX9_init_170 : decode cX9_init 170 = .ok (.newarray .int, 2) := by decide +kernel
theorem dX9_init_172 : decode cX9_init 172 = .ok (.putfield 72, 3) := by decide +kernel
theorem dX9_init_175 : decode cX9_init 175 = .ok (.aload_n 0, 1) := by decide +kernel
theorem dX9_init_176 : decode cX9_init 176 = .ok (.bipush 96, 2) := by decide +kernel
theorem dX9_init_178 : decode cX9_init 178 = .ok (.newarray .int, 2) := by decide +kernel
theorem dX9_init_180 : decode cX9_init 180 = .ok (.putfield 75, 3) := by decide +kernel
theorem dX9_init_183 : decode cX9_init 183 = .ok (.return_, 1) := by decide +kernel
theorem dX9_thrown_0 : decode cX9_thrown 0 = .ok (.aload_n 0, 1) := by decide +kernel
theorem dX9_thrown_1 : decode cX9_thrown 1 = .ok (.getfield 78, 3) := by decide +kernel
theorem dX9_thrown_4 : decode cX9_thrown 4 = .ok (.ireturn, 1) := by decide +kernel
theorem dX9_throwsIf_0 : decode cX9_throwsIf 0 = .ok (.iload_n 1, 1) := by decide +kernel
theorem dX9_throwsIf_1 : decode cX9_throwsIf 1 = .ok (.ifCond .eq 8, 3) := by decide +kernel
theorem dX9_throwsIf_4 : decode cX9_throwsIf 4 = .ok (.aload_n 0, 1) := by decide +kernel
theorem dX9_throwsIf_5 : decode cX9_throwsIf 5 = .ok (.iload_n 2, 1) := by decide +kernel
theorem dX9_throwsIf_6 : decode cX9_throwsIf 6 = .ok (.putfield 78, 3) := by decide +kernel
theorem dX9_throwsIf_9 : decode cX9_throwsIf 9 = .ok (.iload_n 1, 1) := by decide +kernel
theorem dX9_throwsIf_10 : decode cX9_throwsIf 10 = .ok (.ireturn, 1) := by decide +kernel
theorem dX9_in_0 : decode cX9_in 0 = .ok (.iload_n 0, 1) := by decide +kernel
theorem dX9_in_1 : decode cX9_in 1 = .ok (.iload_n 1, 1) := by decide +kernel
theorem dX9_in_2 : decode cX9_in 2 = .ok (.if_icmp .lt 12, 3) := by decide +kernel
theorem dX9_in_5 : decode cX9_in 5 = .ok (.iload_n 0, 1) := by decide +kernel
theorem dX9_in_6 : decode cX9_in 6 = .ok (.iload_n 2, 1) := by decide +kernel
theorem dX9_in_7 : decode cX9_in 7 = .ok (.if_icmp .gt 7, 3) := by decide +kernel
theorem dX9_in_10 : decode cX9_in 10 = .ok (.iconst 1, 1) := by decide +kernel
theorem dX9_in_11 : decode cX9_in 11 = .ok (.goto 4, 3) := by decide +kernel
theorem dX9_in_14 : decode cX9_in 14 = .ok (.iconst 0, 1) := by decide +kernel
theorem dX9_in_15 : decode cX9_in 15 = .ok (.ireturn, 1) := by decide +kernel
theorem dX9_noPort_0 : decode cX9_noPort 0 = .ok (.iload_n 1, 1) := by decide +kernel
theorem dX9_noPort_1 : decode cX9_noPort 1 = .ok (.iconst 0, 1) := by decide +kernel
theorem dX9_noPort_2 : decode cX9_noPort 2 = .ok (.aload_n 0, 1) := by decide +kernel
theorem dX9_noPort_3 : decode cX9_noPort 3 = .ok (.getfield 81, 3) := by decide +kernel
theorem dX9_noPort_6 : decode cX9_noPort 6 = .ok (.iconst 1, 1) := by decide +kernel
theorem dX9_noPort_7 : decode cX9_noPort 7 = .ok (.isub, 1) := by decide +kernel
theorem dX9_noPort_8 : decode cX9_noPort 8 = .ok (.invokestatic 84, 3) := by decide +kernel
theorem dX9_noPort_11 : decode cX9_noPort 11 = .ok (.ifCond .ne 7, 3) := by decide +kernel
theorem dX9_noPort_14 : decode cX9_noPort 14 = .ok (.iconst 1, 1) := by decide +kernel
theorem dX9_noPort_15 : decode cX9_noPort 15 = .ok (.goto 4, 3) := by decide +kernel
theorem dX9_noPort_18 : decode cX9_noPort 18 = .ok (.iconst 0, 1) := by decide +kernel
theorem dX9_noPort_19 : decode cX9_noPort 19 = .ok (.ireturn, 1) := by decide +kernel
theorem dX9_port_0 : decode cX9_port 0 = .ok (.aload_n 0, 1) := by decide +kernel
theorem dX9_port_1 : decode cX9_port 1 = .ok (.iconst 0, 1) := by decide +kernel
theorem dX9_port_2 : decode cX9_port 2 = .ok (.putfield 78, 3) := by decide +kernel
theorem dX9_port_5 : decode cX9_port 5 = .ok (.aload_n 0, 1) := by decide +kernel
theorem dX9_port_6 : decode cX9_port 6 = .ok (.iload_n 1, 1) := by decide +kernel
theorem dX9_port_7 : decode cX9_port 7 = .ok (.iconst 0, 1) := by decide +kernel
theorem dX9_port_8 : decode cX9_port 8 = .ok (.bipush 15, 2) := by decide +kernel
theorem dX9_port_10 : decode cX9_port 10 = .ok (.invokestatic 84, 3) := by decide +kernel
theorem dX9_port_13 : decode cX9_port 13 = .ok (.ifCond .eq 33, 3) := by decide +kernel
theorem dX9_port_16 : decode cX9_port 16 = .ok (.iload_n 2, 1) := by decide +kernel
theorem dX9_port_17 : decode cX9_port 17 = .ok (.iconst 0, 1) := by decide +kernel
theorem dX9_port_18 : decode cX9_port 18 = .ok (.bipush 15, 2) := by decide +kernel
theorem dX9_port_20 : decode cX9_port 20 = .ok (.invokestatic 84, 3) := by decide +kernel
theorem dX9_port_23 : decode cX9_port 23 = .ok (.ifCond .eq 23, 3) := by decide +kernel
theorem dX9_port_26 : decode cX9_port 26 = .ok (.iload_n 3, 1) := by decide +kernel
theorem dX9_port_27 : decode cX9_port 27 = .ok (.iconst 0, 1) := by decide +kernel
theorem dX9_port_28 : decode cX9_port 28 = .ok (.iconst 3, 1) := by decide +kernel
theorem dX9_port_29 : decode cX9_port 29 = .ok (.invokestatic 84, 3) := by decide +kernel
theorem dX9_port_32 : decode cX9_port 32 = .ok (.ifCond .eq 14, 3) := by decide +kernel
theorem dX9_port_35 : decode cX9_port 35 = .ok (.iload 4, 2) := by decide +kernel
theorem dX9_port_37 : decode cX9_port 37 = .ok (.iconst 0, 1) := by decide +kernel
theorem dX9_port_38 : decode cX9_port 38 = .ok (.bipush 12, 2) := by decide +kernel
theorem dX9_port_40 : decode cX9_port 40 = .ok (.invokestatic 84, 3) := by decide +kernel
theorem dX9_port_43 : decode cX9_port 43 = .ok (.ifCond .ne 7, 3) := by decide +kernel
theorem dX9_port_46 : decode cX9_port 46 = .ok (.iconst 1, 1) := by decide +kernel
theorem dX9_port_47 : decode cX9_port 47 = .ok (.goto 4, 3) := by decide +kernel
theorem dX9_port_50 : decode cX9_port 50 = .ok (.iconst 0, 1) := by decide +kernel
theorem dX9_port_51 : decode cX9_port 51 = .ok (.iconst 1, 1) := by decide +kernel
theorem dX9_port_52 : decode cX9_port 52 = .ok (.invokevirtual 88, 3) := by decide +kernel
theorem dX9_port_55 : decode cX9_port 55 = .ok (.ifCond .ne 25, 3) := by decide +kernel
theorem dX9_port_58 : decode cX9_port 58 = .ok (.aload_n 0, 1) := by decide +kernel
theorem dX9_port_59 : decode cX9_port 59 = .ok (.aload_n 0, 1) := by decide +kernel
theorem dX9_port_60 : decode cX9_port 60 = .ok (.getfield 81, 3) := by decide +kernel
theorem dX9_port_63 : decode cX9_port 63 = .ok (.bipush 12, 2) := by decide +kernel
theorem dX9_port_65 : decode cX9_port 65 = .ok (.if_icmp .ne 7, 3) := by decide +kernel
theorem dX9_port_68 : decode cX9_port 68 = .ok (.iconst 1, 1) := by decide +kernel
theorem dX9_port_69 : decode cX9_port 69 = .ok (.goto 4, 3) := by decide +kernel
theorem dX9_port_72 : decode cX9_port 72 = .ok (.iconst 0, 1) := by decide +kernel
theorem dX9_port_73 : decode cX9_port 73 = .ok (.iconst 2, 1) := by decide +kernel
theorem dX9_port_74 : decode cX9_port 74 = .ok (.invokevirtual 88, 3) := by decide +kernel
theorem dX9_port_77 : decode cX9_port 77 = .ok (.ifCond .eq 5, 3) := by decide +kernel
theorem dX9_port_80 : decode cX9_port 80 = .ok (.iconst 0, 1) := by decide +kernel
theorem dX9_port_81 : decode cX9_port 81 = .ok (.ireturn, 1) := by decide +kernel
theorem dX9_port_82 : decode cX9_port 82 = .ok (.aload_n 0, 1) := by decide +kernel
theorem dX9_port_83 : decode cX9_port 83 = .ok (.getfield 9, 3) := by decide +kernel
theorem dX9_port_86 : decode cX9_port 86 = .ok (.aload_n 0, 1) := by decide +kernel
theorem dX9_port_87 : decode cX9_port 87 = .ok (.getfield 81, 3) := by decide +kernel
theorem dX9_port_90 : decode cX9_port 90 = .ok (.iload_n 1, 1) := by decide +kernel
theorem dX9_port_91 : decode cX9_port 91 = .ok (.iastore, 1) := by decide +kernel
theorem dX9_port_92 : decode cX9_port 92 = .ok (.aload_n 0, 1) := by decide +kernel
theorem dX9_port_93 : decode cX9_port 93 = .ok (.getfield 13, 3) := by decide +kernel
theorem dX9_port_96 : decode cX9_port 96 = .ok (.aload_n 0, 1) := by decide +kernel
theorem dX9_port_97 : decode cX9_port 97 = .ok (.getfield 81, 3) := by decide +kernel
theorem dX9_port_100 : decode cX9_port 100 = .ok (.iload_n 2, 1) := by decide +kernel
theorem dX9_port_101 : decode cX9_port 101 = .ok (.iastore, 1) := by decide +kernel
theorem dX9_port_102 : decode cX9_port 102 = .ok (.aload_n 0, 1) := by decide +kernel
theorem dX9_port_103 : decode cX9_port 103 = .ok (.getfield 16, 3) := by decide +kernel
theorem dX9_port_106 : decode cX9_port 106 = .ok (.aload_n 0, 1) := by decide +kernel
theorem dX9_port_107 : decode cX9_port 107 = .ok (.getfield 81, 3) := by decide +kernel
theorem dX9_port_110 : decode cX9_port 110 = .ok (.iload_n 3, 1) := by decide +kernel
theorem dX9_port_111 : decode cX9_port 111 = .ok (.iastore, 1) := by decide +kernel
theorem dX9_port_112 : decode cX9_port 112 = .ok (.aload_n 0, 1) := by decide +kernel
theorem dX9_port_113 : decode cX9_port 113 = .ok (.getfield 19, 3) := by decide +kernel
theorem dX9_port_116 : decode cX9_port 116 = .ok (.aload_n 0, 1) := by decide +kernel
theorem dX9_port_117 : decode cX9_port 117 = .ok (.getfield 81, 3) := by decide +kernel
theorem dX9_port_120 : decode cX9_port 120 = .ok (.iload 4, 2) := by decide +kernel
theorem dX9_port_122 : decode cX9_port 122 = .ok (.iastore, 1) := by decide +kernel
theorem dX9_port_123 : decode cX9_port 123 = .ok (.aload_n 0, 1) := by decide +kernel
theorem dX9_port_124 : decode cX9_port 124 = .ok (.dup, 1) := by decide +kernel
theorem dX9_port_125 : decode cX9_port 125 = .ok (.getfield 81, 3) := by decide +kernel
theorem dX9_port_128 : decode cX9_port 128 = .ok (.iconst 1, 1) := by decide +kernel
theorem dX9_port_129 : decode cX9_port 129 = .ok (.iadd, 1) := by decide +kernel
theorem dX9_port_130 : decode cX9_port 130 = .ok (.putfield 81, 3) := by decide +kernel
theorem dX9_port_133 : decode cX9_port 133 = .ok (.aload_n 0, 1) := by decide +kernel
theorem dX9_port_134 : decode cX9_port 134 = .ok (.getfield 81, 3) := by decide +kernel
theorem dX9_port_137 : decode cX9_port 137 = .ok (.iconst 1, 1) := by decide +kernel
theorem dX9_port_138 : decode cX9_port 138 = .ok (.isub, 1) := by decide +kernel
theorem dX9_port_139 : decode cX9_port 139 = .ok (.ireturn, 1) := by decide +kernel
theorem dX9_report_0 : decode cX9_report 0 = .ok (.aload_n 0, 1) := by decide +kernel
theorem dX9_report_1 : decode cX9_report 1 = .ok (.iconst 0, 1) := by decide +kernel
theorem dX9_report_2 : decode cX9_report 2 = .ok (.putfield 78, 3) := by decide +kernel
theorem dX9_report_5 : decode cX9_report 5 = .ok (.iload_n 2, 1) := by decide +kernel
theorem dX9_report_6 : decode cX9_report 6 = .ok (.iconst 0, 1) := by decide +kernel
theorem dX9_report_7 : decode cX9_report 7 = .ok (.sipush 250, 3) := by decide +kernel
theorem dX9_report_10 : decode cX9_report 10 = .ok (.invokestatic 84, 3) := by decide +kernel
theorem dX9_report_13 : decode cX9_report 13 = .ok (.ifCond .eq 42, 3) := by decide +kernel
theorem dX9_report_16 : decode cX9_report 16 = .ok (.bipush 8, 2) := by decide +kernel
theorem dX9_report_18 : decode cX9_report 18 = .ok (.iload_n 2, 1) := by decide +kernel
theorem dX9_report_19 : decode cX9_report 19 = .ok (.imul, 1) := by decide +kernel
theorem dX9_report_20 : decode cX9_report 20 = .ok (.aload_n 0, 1) := by decide +kernel
theorem dX9_report_21 : decode cX9_report 21 = .ok (.getfield 92, 3) := by decide +kernel
theorem dX9_report_24 : decode cX9_report 24 = .ok (.if_icmp .gt 31, 3) := by decide +kernel
theorem dX9_report_27 : decode cX9_report 27 = .ok (.iload_n 3, 1) := by decide +kernel
theorem dX9_report_28 : decode cX9_report 28 = .ok (.sipush 9000, 3) := by decide +kernel
theorem dX9_report_31 : decode cX9_report 31 = .ok (.sipush 10500, 3) := by decide +kernel
theorem dX9_report_34 : decode cX9_report 34 = .ok (.invokestatic 84, 3) := by decide +kernel
theorem dX9_report_37 : decode cX9_report 37 = .ok (.ifCond .eq 18, 3) := by decide +kernel
theorem dX9_report_40 : decode cX9_report 40 = .ok (.iload 4, 2) := by decide +kernel
theorem dX9_report_42 : decode cX9_report 42 = .ok (.iconst 0, 1) := by decide +kernel
theorem dX9_report_43 : decode cX9_report 43 = .ok (.bipush 12, 2) := by decide +kernel
theorem dX9_report_45 : decode cX9_report 45 = .ok (.invokestatic 84, 3) := by decide +kernel
theorem dX9_report_48 : decode cX9_report 48 = .ok (.ifCond .eq 7, 3) := by decide +kernel
theorem dX9_report_51 : decode cX9_report 51 = .ok (.iconst 1, 1) := by decide +kernel
theorem dX9_report_52 : decode cX9_report 52 = .ok (.goto 4, 3) := by decide +kernel
theorem dX9_report_55 : decode cX9_report 55 = .ok (.iconst 0, 1) := by decide +kernel
theorem dX9_report_56 : decode cX9_report 56 = .ok (.istore 5, 2) := by decide +kernel
theorem dX9_report_58 : decode cX9_report 58 = .ok (.aload_n 0, 1) := by decide +kernel
theorem dX9_report_59 : decode cX9_report 59 = .ok (.aload_n 0, 1) := by decide +kernel
theorem dX9_report_60 : decode cX9_report 60 = .ok (.iload_n 1, 1) := by decide +kernel
theorem dX9_report_61 : decode cX9_report 61 = .ok (.invokevirtual 95, 3) := by decide +kernel
theorem dX9_report_64 : decode cX9_report 64 = .ok (.iconst 1, 1) := by decide +kernel
theorem dX9_report_65 : decode cX9_report 65 = .ok (.invokevirtual 88, 3) := by decide +kernel
theorem dX9_report_68 : decode cX9_report 68 = .ok (.ifCond .ne 44, 3) := by decide +kernel
theorem dX9_report_71 : decode cX9_report 71 = .ok (.aload_n 0, 1) := by decide +kernel
theorem dX9_report_72 : decode cX9_report 72 = .ok (.iload 5, 2) := by decide +kernel
theorem dX9_report_74 : decode cX9_report 74 = .ok (.ifCond .ne 7, 3) := by decide +kernel
theorem dX9_report_77 : decode cX9_report 77 = .ok (.iconst 1, 1) := by decide +kernel
theorem dX9_report_78 : decode cX9_report 78 = .ok (.goto 4, 3) := by decide +kernel
theorem dX9_report_81 : decode cX9_report 81 = .ok (.iconst 0, 1) := by decide +kernel
theorem dX9_report_82 : decode cX9_report 82 = .ok (.iconst 2, 1) := by decide +kernel
theorem dX9_report_83 : decode cX9_report 83 = .ok (.invokevirtual 88, 3) := by decide +kernel
theorem dX9_report_86 : decode cX9_report 86 = .ok (.ifCond .ne 26, 3) := by decide +kernel
theorem dX9_report_89 : decode cX9_report 89 = .ok (.aload_n 0, 1) := by decide +kernel
theorem dX9_report_90 : decode cX9_report 90 = .ok (.aload_n 0, 1) := by decide +kernel
theorem dX9_report_91 : decode cX9_report 91 = .ok (.getfield 99, 3) := by decide +kernel
theorem dX9_report_94 : decode cX9_report 94 = .ok (.sipush 300, 3) := by decide +kernel
theorem dX9_report_97 : decode cX9_report 97 = .ok (.if_icmp .ne 7, 3) := by decide +kernel
theorem dX9_report_100 : decode cX9_report 100 = .ok (.iconst 1, 1) := by decide +kernel
theorem dX9_report_101 : decode cX9_report 101 = .ok (.goto 4, 3) := by decide +kernel
theorem dX9_report_104 : decode cX9_report 104 = .ok (.iconst 0, 1) := by decide +kernel
theorem dX9_report_105 : decode cX9_report 105 = .ok (.iconst 3, 1) := by decide +kernel
theorem dX9_report_106 : decode cX9_report 106 = .ok (.invokevirtual 88, 3) := by decide +kernel
theorem dX9_report_109 : decode cX9_report 109 = .ok (.ifCond .eq 5, 3) := by decide +kernel
theorem dX9_report_112 : decode cX9_report 112 = .ok (.iconst 0, 1) := by decide +kernel
theorem dX9_report_113 : decode cX9_report 113 = .ok (.ireturn, 1) := by decide +kernel
theorem dX9_report_114 : decode cX9_report 114 = .ok (.aload_n 0, 1) := by decide +kernel
theorem dX9_report_115 : decode cX9_report 115 = .ok (.getfield 22, 3) := by decide +kernel
theorem dX9_report_118 : decode cX9_report 118 = .ok (.aload_n 0, 1) := by decide +kernel
theorem dX9_report_119 : decode cX9_report 119 = .ok (.getfield 99, 3) := by decide +kernel
theorem dX9_report_122 : decode cX9_report 122 = .ok (.iload_n 1, 1) := by decide +kernel
theorem dX9_report_123 : decode cX9_report 123 = .ok (.iastore, 1) := by decide +kernel
theorem dX9_report_124 : decode cX9_report 124 = .ok (.aload_n 0, 1) := by decide +kernel
theorem dX9_report_125 : decode cX9_report 125 = .ok (.getfield 25, 3) := by decide +kernel
theorem dX9_report_128 : decode cX9_report 128 = .ok (.aload_n 0, 1) := by decide +kernel
theorem dX9_report_129 : decode cX9_report 129 = .ok (.getfield 99, 3) := by decide +kernel
theorem dX9_report_132 : decode cX9_report 132 = .ok (.iload_n 2, 1) := by decide +kernel
theorem dX9_report_133 : decode cX9_report 133 = .ok (.iastore, 1) := by decide +kernel
theorem dX9_report_134 : decode cX9_report 134 = .ok (.aload_n 0, 1) := by decide +kernel
theorem dX9_report_135 : decode cX9_report 135 = .ok (.getfield 28, 3) := by decide +kernel
theorem dX9_report_138 : decode cX9_report 138 = .ok (.aload_n 0, 1) := by decide +kernel
theorem dX9_report_139 : decode cX9_report 139 = .ok (.getfield 99, 3) := by decide +kernel
theorem dX9_report_142 : decode cX9_report 142 = .ok (.iload_n 3, 1) := by decide +kernel
theorem dX9_report_143 : decode cX9_report 143 = .ok (.iastore, 1) := by decide +kernel
theorem dX9_report_144 : decode cX9_report 144 = .ok (.aload_n 0, 1) := by decide +kernel
theorem dX9_report_145 : decode cX9_report 145 = .ok (.getfield 31, 3) := by decide +kernel
theorem dX9_report_148 : decode cX9_report 148 = .ok (.aload_n 0, 1) := by decide +kernel
theorem dX9_report_149 : decode cX9_report 149 = .ok (.getfield 99, 3) := by decide +kernel
theorem dX9_report_152 : decode cX9_report 152 = .ok (.iload 4, 2) := by decide +kernel
theorem dX9_report_154 : decode cX9_report 154 = .ok (.iastore, 1) := by decide +kernel
theorem dX9_report_155 : decode cX9_report 155 = .ok (.aload_n 0, 1) := by decide +kernel
theorem dX9_report_156 : decode cX9_report 156 = .ok (.getfield 34, 3) := by decide +kernel
theorem dX9_report_159 : decode cX9_report 159 = .ok (.aload_n 0, 1) := by decide +kernel
theorem dX9_report_160 : decode cX9_report 160 = .ok (.getfield 99, 3) := by decide +kernel
theorem dX9_report_163 : decode cX9_report 163 = .ok (.aload_n 0, 1) := by decide +kernel
theorem dX9_report_164 : decode cX9_report 164 = .ok (.getfield 92, 3) := by decide +kernel
theorem dX9_report_167 : decode cX9_report 167 = .ok (.iastore, 1) := by decide +kernel
theorem dX9_report_168 : decode cX9_report 168 = .ok (.aload_n 0, 1) := by decide +kernel
theorem dX9_report_169 : decode cX9_report 169 = .ok (.dup, 1) := by decide +kernel
theorem dX9_report_170 : decode cX9_report 170 = .ok (.getfield 99, 3) := by decide +kernel
theorem dX9_report_173 : decode cX9_report 173 = .ok (.iconst 1, 1) := by decide +kernel
theorem dX9_report_174 : decode cX9_report 174 = .ok (.iadd, 1) := by decide +kernel
theorem dX9_report_175 : decode cX9_report 175 = .ok (.putfield 99, 3) := by decide +kernel
theorem dX9_report_178 : decode cX9_report 178 = .ok (.aload_n 0, 1) := by decide +kernel
theorem dX9_report_179 : decode cX9_report 179 = .ok (.getfield 99, 3) := by decide +kernel
theorem dX9_report_182 : decode cX9_report 182 = .ok (.iconst 1, 1) := by decide +kernel
theorem dX9_report_183 : decode cX9_report 183 = .ok (.isub, 1) := by decide +kernel
theorem dX9_report_184 : decode cX9_report 184 = .ok (.ireturn, 1) := by decide +kernel
theorem dX9_countsOf_0 : decode cX9_countsOf 0 = .ok (.aload_n 0, 1) := by decide +kernel
theorem dX9_countsOf_1 : decode cX9_countsOf 1 = .ok (.getfield 99, 3) := by decide +kernel
theorem dX9_countsOf_4 : decode cX9_countsOf 4 = .ok (.iconst 1, 1) := by decide +kernel
theorem dX9_countsOf_5 : decode cX9_countsOf 5 = .ok (.isub, 1) := by decide +kernel
theorem dX9_countsOf_6 : decode cX9_countsOf 6 = .ok (.istore 4, 2) := by decide +kernel
theorem dX9_countsOf_8 : decode cX9_countsOf 8 = .ok (.iload 4, 2) := by decide +kernel
theorem dX9_countsOf_10 : decode cX9_countsOf 10 = .ok (.ifCond .lt 52, 3) := by decide +kernel
theorem dX9_countsOf_13 : decode cX9_countsOf 13 = .ok (.aload_n 0, 1) := by decide +kernel
theorem dX9_countsOf_14 : decode cX9_countsOf 14 = .ok (.getfield 22, 3) := by decide +kernel
theorem dX9_countsOf_17 : decode cX9_countsOf 17 = .ok (.iload 4, 2) := by decide +kernel
theorem dX9_countsOf_19 : decode cX9_countsOf 19 = .ok (.iaload, 1) := by decide +kernel
theorem dX9_countsOf_20 : decode cX9_countsOf 20 = .ok (.iload_n 1, 1) := by decide +kernel
theorem dX9_countsOf_21 : decode cX9_countsOf 21 = .ok (.if_icmp .ne 35, 3) := by decide +kernel
theorem dX9_countsOf_24 : decode cX9_countsOf 24 = .ok (.aload_n 0, 1) := by decide +kernel
theorem dX9_countsOf_25 : decode cX9_countsOf 25 = .ok (.getfield 25, 3) := by decide +kernel
theorem dX9_countsOf_28 : decode cX9_countsOf 28 = .ok (.iload 4, 2) := by decide +kernel
theorem dX9_countsOf_30 : decode cX9_countsOf 30 = .ok (.iaload, 1) := by decide +kernel
theorem dX9_countsOf_31 : decode cX9_countsOf 31 = .ok (.iload_n 2, 1) := by decide +kernel
theorem dX9_countsOf_32 : decode cX9_countsOf 32 = .ok (.if_icmp .ne 24, 3) := by decide +kernel
theorem dX9_countsOf_35 : decode cX9_countsOf 35 = .ok (.aload_n 0, 1) := by decide +kernel
theorem dX9_countsOf_36 : decode cX9_countsOf 36 = .ok (.getfield 34, 3) := by decide +kernel
theorem dX9_countsOf_39 : decode cX9_countsOf 39 = .ok (.iload 4, 2) := by decide +kernel
theorem dX9_countsOf_41 : decode cX9_countsOf 41 = .ok (.iaload, 1) := by decide +kernel
theorem dX9_countsOf_42 : decode cX9_countsOf 42 = .ok (.aload_n 0, 1) := by decide +kernel
theorem dX9_countsOf_43 : decode cX9_countsOf 43 = .ok (.getfield 19, 3) := by decide +kernel
theorem dX9_countsOf_46 : decode cX9_countsOf 46 = .ok (.iload_n 1, 1) := by decide +kernel
theorem dX9_countsOf_47 : decode cX9_countsOf 47 = .ok (.iaload, 1) := by decide +kernel
theorem dX9_countsOf_48 : decode cX9_countsOf 48 = .ok (.iadd, 1) := by decide +kernel
theorem dX9_countsOf_49 : decode cX9_countsOf 49 = .ok (.iload_n 3, 1) := by decide +kernel
theorem dX9_countsOf_50 : decode cX9_countsOf 50 = .ok (.if_icmp .gt 6, 3) := by decide +kernel
theorem dX9_countsOf_53 : decode cX9_countsOf 53 = .ok (.iload 4, 2) := by decide +kernel
theorem dX9_countsOf_55 : decode cX9_countsOf 55 = .ok (.ireturn, 1) := by decide +kernel
theorem dX9_countsOf_56 : decode cX9_countsOf 56 = .ok (.iinc 4 (-1), 3) := by decide +kernel
theorem dX9_countsOf_59 : decode cX9_countsOf 59 = .ok (.goto (-51), 3) := by decide +kernel
theorem dX9_countsOf_62 : decode cX9_countsOf 62 = .ok (.iconst (-1), 1) := by decide +kernel
theorem dX9_countsOf_63 : decode cX9_countsOf 63 = .ok (.ireturn, 1) := by decide +kernel
theorem dX9_counts_0 : decode cX9_counts 0 = .ok (.aload_n 0, 1) := by decide +kernel
theorem dX9_counts_1 : decode cX9_counts 1 = .ok (.iconst 0, 1) := by decide +kernel
theorem dX9_counts_2 : decode cX9_counts 2 = .ok (.putfield 78, 3) := by decide +kernel
theorem dX9_counts_5 : decode cX9_counts 5 = .ok (.aload_n 0, 1) := by decide +kernel
theorem dX9_counts_6 : decode cX9_counts 6 = .ok (.aload_n 0, 1) := by decide +kernel
theorem dX9_counts_7 : decode cX9_counts 7 = .ok (.iload_n 1, 1) := by decide +kernel
theorem dX9_counts_8 : decode cX9_counts 8 = .ok (.invokevirtual 95, 3) := by decide +kernel
theorem dX9_counts_11 : decode cX9_counts 11 = .ok (.iconst 1, 1) := by decide +kernel
theorem dX9_counts_12 : decode cX9_counts 12 = .ok (.invokevirtual 88, 3) := by decide +kernel
theorem dX9_counts_15 : decode cX9_counts 15 = .ok (.ifCond .eq 7, 3) := by decide +kernel
theorem dX9_counts_18 : decode cX9_counts 18 = .ok (.iconst 0, 1) := by decide +kernel
theorem dX9_counts_19 : decode cX9_counts 19 = .ok (.goto 10, 3) := by decide +kernel
theorem dX9_counts_22 : decode cX9_counts 22 = .ok (.aload_n 0, 1) := by decide +kernel
theorem dX9_counts_23 : decode cX9_counts 23 = .ok (.iload_n 1, 1) := by decide +kernel
theorem dX9_counts_24 : decode cX9_counts 24 = .ok (.iload_n 2, 1) := by decide +kernel
theorem dX9_counts_25 : decode cX9_counts 25 = .ok (.iload_n 3, 1) := by decide +kernel
theorem dX9_counts_26 : decode cX9_counts 26 = .ok (.invokevirtual 102, 3) := by decide +kernel
theorem dX9_counts_29 : decode cX9_counts 29 = .ok (.ireturn, 1) := by decide +kernel
theorem dX9_fieldOf_0 : decode cX9_fieldOf 0 = .ok (.iconst 0, 1) := by decide +kernel
theorem dX9_fieldOf_1 : decode cX9_fieldOf 1 = .ok (.istore 5, 2) := by decide +kernel
theorem dX9_fieldOf_3 : decode cX9_fieldOf 3 = .ok (.iconst 0, 1) := by decide +kernel
theorem dX9_fieldOf_4 : decode cX9_fieldOf 4 = .ok (.istore 6, 2) := by decide +kernel
theorem dX9_fieldOf_6 : decode cX9_fieldOf 6 = .ok (.iconst 0, 1) := by decide +kernel
theorem dX9_fieldOf_7 : decode cX9_fieldOf 7 = .ok (.istore 7, 2) := by decide +kernel
theorem dX9_fieldOf_9 : decode cX9_fieldOf 9 = .ok (.iload 7, 2) := by decide +kernel
theorem dX9_fieldOf_11 : decode cX9_fieldOf 11 = .ok (.aload_n 0, 1) := by decide +kernel
theorem dX9_fieldOf_12 : decode cX9_fieldOf 12 = .ok (.getfield 81, 3) := by decide +kernel
theorem dX9_fieldOf_15 : decode cX9_fieldOf 15 = .ok (.if_icmp .ge 101, 3) := by decide +kernel
theorem dX9_fieldOf_18 : decode cX9_fieldOf 18 = .ok (.aload_n 0, 1) := by decide +kernel
theorem dX9_fieldOf_19 : decode cX9_fieldOf 19 = .ok (.iload 7, 2) := by decide +kernel
theorem dX9_fieldOf_21 : decode cX9_fieldOf 21 = .ok (.iload_n 3, 1) := by decide +kernel
theorem dX9_fieldOf_22 : decode cX9_fieldOf 22 = .ok (.iload 4, 2) := by decide +kernel
theorem dX9_fieldOf_24 : decode cX9_fieldOf 24 = .ok (.invokevirtual 102, 3) := by decide +kernel
theorem dX9_fieldOf_27 : decode cX9_fieldOf 27 = .ok (.istore 8, 2) := by decide +kernel
theorem dX9_fieldOf_29 : decode cX9_fieldOf 29 = .ok (.iload 8, 2) := by decide +kernel
theorem dX9_fieldOf_31 : decode cX9_fieldOf 31 = .ok (.ifCond .ge 6, 3) := by decide +kernel
theorem dX9_fieldOf_34 : decode cX9_fieldOf 34 = .ok (.goto 76, 3) := by decide +kernel
theorem dX9_fieldOf_37 : decode cX9_fieldOf 37 = .ok (.iconst 1, 1) := by decide +kernel
theorem dX9_fieldOf_38 : decode cX9_fieldOf 38 = .ok (.sipush 1000, 3) := by decide +kernel
theorem dX9_fieldOf_41 : decode cX9_fieldOf 41 = .ok (.iconst 1, 1) := by decide +kernel
theorem dX9_fieldOf_42 : decode cX9_fieldOf 42 = .ok (.aload_n 0, 1) := by decide +kernel
theorem dX9_fieldOf_43 : decode cX9_fieldOf 43 = .ok (.getfield 9, 3) := by decide +kernel
theorem dX9_fieldOf_46 : decode cX9_fieldOf 46 = .ok (.iload 7, 2) := by decide +kernel
theorem dX9_fieldOf_48 : decode cX9_fieldOf 48 = .ok (.iaload, 1) := by decide +kernel
theorem dX9_fieldOf_49 : decode cX9_fieldOf 49 = .ok (.iload_n 1, 1) := by decide +kernel
theorem dX9_fieldOf_50 : decode cX9_fieldOf 50 = .ok (.isub, 1) := by decide +kernel
theorem dX9_fieldOf_51 : decode cX9_fieldOf 51 = .ok (.aload_n 0, 1) := by decide +kernel
theorem dX9_fieldOf_52 : decode cX9_fieldOf 52 = .ok (.getfield 9, 3) := by decide +kernel
theorem dX9_fieldOf_55 : decode cX9_fieldOf 55 = .ok (.iload 7, 2) := by decide +kernel
theorem dX9_fieldOf_57 : decode cX9_fieldOf 57 = .ok (.iaload, 1) := by decide +kernel
theorem dX9_fieldOf_58 : decode cX9_fieldOf 58 = .ok (.iload_n 1, 1) := by decide +kernel
theorem dX9_fieldOf_59 : decode cX9_fieldOf 59 = .ok (.isub, 1) := by decide +kernel
theorem dX9_fieldOf_60 : decode cX9_fieldOf 60 = .ok (.imul, 1) := by decide +kernel
theorem dX9_fieldOf_61 : decode cX9_fieldOf 61 = .ok (.iadd, 1) := by decide +kernel
theorem dX9_fieldOf_62 : decode cX9_fieldOf 62 = .ok (.aload_n 0, 1) := by decide +kernel
theorem dX9_fieldOf_63 : decode cX9_fieldOf 63 = .ok (.getfield 13, 3) := by decide +kernel
theorem dX9_fieldOf_66 : decode cX9_fieldOf 66 = .ok (.iload 7, 2) := by decide +kernel
theorem dX9_fieldOf_68 : decode cX9_fieldOf 68 = .ok (.iaload, 1) := by decide +kernel
theorem dX9_fieldOf_69 : decode cX9_fieldOf 69 = .ok (.iload_n 2, 1) := by decide +kernel
theorem dX9_fieldOf_70 : decode cX9_fieldOf 70 = .ok (.isub, 1) := by decide +kernel
theorem dX9_fieldOf_71 : decode cX9_fieldOf 71 = .ok (.aload_n 0, 1) := by decide +kernel
theorem dX9_fieldOf_72 : decode cX9_fieldOf 72 = .ok (.getfield 13, 3) := by decide +kernel
theorem dX9_fieldOf_75 : decode cX9_fieldOf 75 = .ok (.iload 7, 2) := by decide +kernel
theorem dX9_fieldOf_77 : decode cX9_fieldOf 77 = .ok (.iaload, 1) := by decide +kernel
theorem dX9_fieldOf_78 : decode cX9_fieldOf 78 = .ok (.iload_n 2, 1) := by decide +kernel
theorem dX9_fieldOf_79 : decode cX9_fieldOf 79 = .ok (.isub, 1) := by decide +kernel
theorem dX9_fieldOf_80 : decode cX9_fieldOf 80 = .ok (.imul, 1) := by decide +kernel
theorem dX9_fieldOf_81 : decode cX9_fieldOf 81 = .ok (.iadd, 1) := by decide +kernel
theorem dX9_fieldOf_82 : decode cX9_fieldOf 82 = .ok (.idiv, 1) := by decide +kernel
theorem dX9_fieldOf_83 : decode cX9_fieldOf 83 = .ok (.invokestatic 106, 3) := by decide +kernel
theorem dX9_fieldOf_86 : decode cX9_fieldOf 86 = .ok (.istore 9, 2) := by decide +kernel
theorem dX9_fieldOf_88 : decode cX9_fieldOf 88 = .ok (.iload 5, 2) := by decide +kernel
theorem dX9_fieldOf_90 : decode cX9_fieldOf 90 = .ok (.iload 9, 2) := by decide +kernel
theorem dX9_fieldOf_92 : decode cX9_fieldOf 92 = .ok (.aload_n 0, 1) := by decide +kernel
theorem dX9_fieldOf_93 : decode cX9_fieldOf 93 = .ok (.getfield 28, 3) := by decide +kernel
theorem dX9_fieldOf_96 : decode cX9_fieldOf 96 = .ok (.iload 8, 2) := by decide +kernel
theorem dX9_fieldOf_98 : decode cX9_fieldOf 98 = .ok (.iaload, 1) := by decide +kernel
theorem dX9_fieldOf_99 : decode cX9_fieldOf 99 = .ok (.imul, 1) := by decide +kernel
theorem dX9_fieldOf_100 : decode cX9_fieldOf 100 = .ok (.iadd, 1) := by decide +kernel
theorem dX9_fieldOf_101 : decode cX9_fieldOf 101 = .ok (.istore 5, 2) := by decide +kernel
theorem dX9_fieldOf_103 : decode cX9_fieldOf 103 = .ok (.iload 6, 2) := by decide +kernel
theorem dX9_fieldOf_105 : decode cX9_fieldOf 105 = .ok (.iload 9, 2) := by decide +kernel
theorem dX9_fieldOf_107 : decode cX9_fieldOf 107 = .ok (.iadd, 1) := by decide +kernel
theorem dX9_fieldOf_108 : decode cX9_fieldOf 108 = .ok (.istore 6, 2) := by decide +kernel
theorem dX9_fieldOf_110 : decode cX9_fieldOf 110 = .ok (.iinc 7 1, 3) := by decide +kernel
theorem dX9_fieldOf_113 : decode cX9_fieldOf 113 = .ok (.goto (-104), 3) := by decide +kernel
theorem dX9_fieldOf_116 : decode cX9_fieldOf 116 = .ok (.iload 6, 2) := by decide +kernel
theorem dX9_fieldOf_118 : decode cX9_fieldOf 118 = .ok (.ifCond .ne 7, 3) := by decide +kernel
theorem dX9_fieldOf_121 : decode cX9_fieldOf 121 = .ok (.iconst (-1), 1) := by decide +kernel
theorem dX9_fieldOf_122 : decode cX9_fieldOf 122 = .ok (.goto 8, 3) := by decide +kernel
theorem dX9_fieldOf_125 : decode cX9_fieldOf 125 = .ok (.iload 5, 2) := by decide +kernel
theorem dX9_fieldOf_127 : decode cX9_fieldOf 127 = .ok (.iload 6, 2) := by decide +kernel
theorem dX9_fieldOf_129 : decode cX9_fieldOf 129 = .ok (.idiv, 1) := by decide +kernel
theorem dX9_fieldOf_130 : decode cX9_fieldOf 130 = .ok (.ireturn, 1) := by decide +kernel
theorem dX9_field_0 : decode cX9_field 0 = .ok (.aload_n 0, 1) := by decide +kernel
theorem dX9_field_1 : decode cX9_field 1 = .ok (.iconst 0, 1) := by decide +kernel
theorem dX9_field_2 : decode cX9_field 2 = .ok (.putfield 78, 3) := by decide +kernel
theorem dX9_field_5 : decode cX9_field 5 = .ok (.aload_n 0, 1) := by decide +kernel
theorem dX9_field_6 : decode cX9_field 6 = .ok (.iload_n 1, 1) := by decide +kernel
theorem dX9_field_7 : decode cX9_field 7 = .ok (.iconst 0, 1) := by decide +kernel
theorem dX9_field_8 : decode cX9_field 8 = .ok (.bipush 15, 2) := by decide +kernel
theorem dX9_field_10 : decode cX9_field 10 = .ok (.invokestatic 84, 3) := by decide +kernel
theorem dX9_field_13 : decode cX9_field 13 = .ok (.ifCond .eq 13, 3) := by decide +kernel
theorem dX9_field_16 : decode cX9_field 16 = .ok (.iload_n 2, 1) := by decide +kernel
theorem dX9_field_17 : decode cX9_field 17 = .ok (.iconst 0, 1) := by decide +kernel
theorem dX9_field_18 : decode cX9_field 18 = .ok (.bipush 15, 2) := by decide +kernel
theorem dX9_field_20 : decode cX9_field 20 = .ok (.invokestatic 84, 3) := by decide +kernel
theorem dX9_field_23 : decode cX9_field 23 = .ok (.ifCond .ne 7, 3) := by decide +kernel
theorem dX9_field_26 : decode cX9_field 26 = .ok (.iconst 1, 1) := by decide +kernel
theorem dX9_field_27 : decode cX9_field 27 = .ok (.goto 4, 3) := by decide +kernel
theorem dX9_field_30 : decode cX9_field 30 = .ok (.iconst 0, 1) := by decide +kernel
theorem dX9_field_31 : decode cX9_field 31 = .ok (.iconst 1, 1) := by decide +kernel
theorem dX9_field_32 : decode cX9_field 32 = .ok (.invokevirtual 88, 3) := by decide +kernel
theorem dX9_field_35 : decode cX9_field 35 = .ok (.ifCond .eq 7, 3) := by decide +kernel
theorem dX9_field_38 : decode cX9_field 38 = .ok (.iconst 0, 1) := by decide +kernel
theorem dX9_field_39 : decode cX9_field 39 = .ok (.goto 12, 3) := by decide +kernel
theorem dX9_field_42 : decode cX9_field 42 = .ok (.aload_n 0, 1) := by decide +kernel
theorem dX9_field_43 : decode cX9_field 43 = .ok (.iload_n 1, 1) := by decide +kernel
theorem dX9_field_44 : decode cX9_field 44 = .ok (.iload_n 2, 1) := by decide +kernel
theorem dX9_field_45 : decode cX9_field 45 = .ok (.iload_n 3, 1) := by decide +kernel
theorem dX9_field_46 : decode cX9_field 46 = .ok (.iload 4, 2) := by decide +kernel
theorem dX9_field_48 : decode cX9_field 48 = .ok (.invokevirtual 112, 3) := by decide +kernel
theorem dX9_field_51 : decode cX9_field 51 = .ok (.ireturn, 1) := by decide +kernel
theorem dX9_feed_0 : decode cX9_feed 0 = .ok (.aload_n 0, 1) := by decide +kernel
theorem dX9_feed_1 : decode cX9_feed 1 = .ok (.iconst 0, 1) := by decide +kernel
theorem dX9_feed_2 : decode cX9_feed 2 = .ok (.putfield 78, 3) := by decide +kernel
theorem dX9_feed_5 : decode cX9_feed 5 = .ok (.aload_n 0, 1) := by decide +kernel
theorem dX9_feed_6 : decode cX9_feed 6 = .ok (.getfield 116, 3) := by decide +kernel
theorem dX9_feed_9 : decode cX9_feed 9 = .ok (.bipush 20, 2) := by decide +kernel
theorem dX9_feed_11 : decode cX9_feed 11 = .ok (.iadd, 1) := by decide +kernel
theorem dX9_feed_12 : decode cX9_feed 12 = .ok (.sipush 400, 3) := by decide +kernel
theorem dX9_feed_15 : decode cX9_feed 15 = .ok (.if_icmp .le 5, 3) := by decide +kernel
theorem dX9_feed_18 : decode cX9_feed 18 = .ok (.iconst (-1), 1) := by decide +kernel
theorem dX9_feed_19 : decode cX9_feed 19 = .ok (.ireturn, 1) := by decide +kernel
theorem dX9_feed_20 : decode cX9_feed 20 = .ok (.aload_n 0, 1) := by decide +kernel
theorem dX9_feed_21 : decode cX9_feed 21 = .ok (.getfield 57, 3) := by decide +kernel
theorem dX9_feed_24 : decode cX9_feed 24 = .ok (.iconst 0, 1) := by decide +kernel
theorem dX9_feed_25 : decode cX9_feed 25 = .ok (.iload_n 1, 1) := by decide +kernel
theorem dX9_feed_26 : decode cX9_feed 26 = .ok (.iastore, 1) := by decide +kernel
theorem dX9_feed_27 : decode cX9_feed 27 = .ok (.aload_n 0, 1) := by decide +kernel
theorem dX9_feed_28 : decode cX9_feed 28 = .ok (.getfield 57, 3) := by decide +kernel
theorem dX9_feed_31 : decode cX9_feed 31 = .ok (.iconst 1, 1) := by decide +kernel
theorem dX9_feed_32 : decode cX9_feed 32 = .ok (.iload_n 2, 1) := by decide +kernel
theorem dX9_feed_33 : decode cX9_feed 33 = .ok (.iastore, 1) := by decide +kernel
theorem dX9_feed_34 : decode cX9_feed 34 = .ok (.aload_n 0, 1) := by decide +kernel
theorem dX9_feed_35 : decode cX9_feed 35 = .ok (.getfield 57, 3) := by decide +kernel
theorem dX9_feed_38 : decode cX9_feed 38 = .ok (.iconst 2, 1) := by decide +kernel
theorem dX9_feed_39 : decode cX9_feed 39 = .ok (.iload_n 3, 1) := by decide +kernel
theorem dX9_feed_40 : decode cX9_feed 40 = .ok (.iastore, 1) := by decide +kernel
theorem dX9_feed_41 : decode cX9_feed 41 = .ok (.aload_n 0, 1) := by decide +kernel
theorem dX9_feed_42 : decode cX9_feed 42 = .ok (.getfield 57, 3) := by decide +kernel
theorem dX9_feed_45 : decode cX9_feed 45 = .ok (.iconst 3, 1) := by decide +kernel
theorem dX9_feed_46 : decode cX9_feed 46 = .ok (.iload 4, 2) := by decide +kernel
theorem dX9_feed_48 : decode cX9_feed 48 = .ok (.iastore, 1) := by decide +kernel
theorem dX9_feed_49 : decode cX9_feed 49 = .ok (.aload_n 0, 1) := by decide +kernel
theorem dX9_feed_50 : decode cX9_feed 50 = .ok (.getfield 57, 3) := by decide +kernel
theorem dX9_feed_53 : decode cX9_feed 53 = .ok (.iconst 4, 1) := by decide +kernel
theorem dX9_feed_54 : decode cX9_feed 54 = .ok (.iload 5, 2) := by decide +kernel
theorem dX9_feed_56 : decode cX9_feed 56 = .ok (.iastore, 1) := by decide +kernel
theorem dX9_feed_57 : decode cX9_feed 57 = .ok (.iconst 0, 1) := by decide +kernel
theorem dX9_feed_58 : decode cX9_feed 58 = .ok (.istore 6, 2) := by decide +kernel
theorem dX9_feed_60 : decode cX9_feed 60 = .ok (.iload 6, 2) := by decide +kernel
theorem dX9_feed_62 : decode cX9_feed 62 = .ok (.bipush 20, 2) := by decide +kernel
theorem dX9_feed_64 : decode cX9_feed 64 = .ok (.if_icmp .ge 42, 3) := by decide +kernel
theorem dX9_feed_67 : decode cX9_feed 67 = .ok (.aload_n 0, 1) := by decide +kernel
theorem dX9_feed_68 : decode cX9_feed 68 = .ok (.getfield 49, 3) := by decide +kernel
theorem dX9_feed_71 : decode cX9_feed 71 = .ok (.aload_n 0, 1) := by decide +kernel
theorem dX9_feed_72 : decode cX9_feed 72 = .ok (.getfield 116, 3) := by decide +kernel
theorem dX9_feed_75 : decode cX9_feed 75 = .ok (.iload 6, 2) := by decide +kernel
theorem dX9_feed_77 : decode cX9_feed 77 = .ok (.iadd, 1) := by decide +kernel
theorem dX9_feed_78 : decode cX9_feed 78 = .ok (.aload_n 0, 1) := by decide +kernel
theorem dX9_feed_79 : decode cX9_feed 79 = .ok (.getfield 57, 3) := by decide +kernel
theorem dX9_feed_82 : decode cX9_feed 82 = .ok (.iload 6, 2) := by decide +kernel
theorem dX9_feed_84 : decode cX9_feed 84 = .ok (.iconst 4, 1) := by decide +kernel
theorem dX9_feed_85 : decode cX9_feed 85 = .ok (.idiv, 1) := by decide +kernel
theorem dX9_feed_86 : decode cX9_feed 86 = .ok (.iaload, 1) := by decide +kernel
theorem dX9_feed_87 : decode cX9_feed 87 = .ok (.bipush 24, 2) := by decide +kernel
theorem dX9_feed_89 : decode cX9_feed 89 = .ok (.bipush 8, 2) := by decide +kernel
theorem dX9_feed_91 : decode cX9_feed 91 = .ok (.iload 6, 2) := by decide +kernel
theorem dX9_feed_93 : decode cX9_feed 93 = .ok (.iconst 4, 1) := by decide +kernel
theorem dX9_feed_94 : decode cX9_feed 94 = .ok (.irem, 1) := by decide +kernel
theorem dX9_feed_95 : decode cX9_feed 95 = .ok (.imul, 1) := by decide +kernel
theorem dX9_feed_96 : decode cX9_feed 96 = .ok (.isub, 1) := by decide +kernel
theorem dX9_feed_97 : decode cX9_feed 97 = .ok (.ishr, 1) := by decide +kernel
theorem dX9_feed_98 : decode cX9_feed 98 = .ok (.i2b, 1) := by decide +kernel
theorem dX9_feed_99 : decode cX9_feed 99 = .ok (.bastore, 1) := by decide +kernel
theorem dX9_feed_100 : decode cX9_feed 100 = .ok (.iinc 6 1, 3) := by decide +kernel
theorem dX9_feed_103 : decode cX9_feed 103 = .ok (.goto (-43), 3) := by decide +kernel
theorem dX9_feed_106 : decode cX9_feed 106 = .ok (.aload_n 0, 1) := by decide +kernel
theorem dX9_feed_107 : decode cX9_feed 107 = .ok (.dup, 1) := by decide +kernel
theorem dX9_feed_108 : decode cX9_feed 108 = .ok (.getfield 116, 3) := by decide +kernel
theorem dX9_feed_111 : decode cX9_feed 111 = .ok (.bipush 20, 2) := by decide +kernel
theorem dX9_feed_113 : decode cX9_feed 113 = .ok (.iadd, 1) := by decide +kernel
theorem dX9_feed_114 : decode cX9_feed 114 = .ok (.putfield 116, 3) := by decide +kernel
theorem dX9_feed_117 : decode cX9_feed 117 = .ok (.aload_n 0, 1) := by decide +kernel
theorem dX9_feed_118 : decode cX9_feed 118 = .ok (.getfield 116, 3) := by decide +kernel
theorem dX9_feed_121 : decode cX9_feed 121 = .ok (.ireturn, 1) := by decide +kernel
theorem dX9_end_0 : decode cX9_end 0 = .ok (.aload_n 0, 1) := by decide +kernel
theorem dX9_end_1 : decode cX9_end 1 = .ok (.iconst 0, 1) := by decide +kernel
theorem dX9_end_2 : decode cX9_end 2 = .ok (.putfield 78, 3) := by decide +kernel
theorem dX9_end_5 : decode cX9_end 5 = .ok (.iload_n 1, 1) := by decide +kernel
theorem dX9_end_6 : decode cX9_end 6 = .ok (.ifCond .lt 11, 3) := by decide +kernel
theorem dX9_end_9 : decode cX9_end 9 = .ok (.iload_n 1, 1) := by decide +kernel
theorem dX9_end_10 : decode cX9_end 10 = .ok (.aload_n 0, 1) := by decide +kernel
theorem dX9_end_11 : decode cX9_end 11 = .ok (.getfield 116, 3) := by decide +kernel
theorem dX9_end_14 : decode cX9_end 14 = .ok (.if_icmp .le 5, 3) := by decide +kernel
theorem dX9_end_17 : decode cX9_end 17 = .ok (.iconst 0, 1) := by decide +kernel
theorem dX9_end_18 : decode cX9_end 18 = .ok (.ireturn, 1) := by decide +kernel
theorem dX9_end_19 : decode cX9_end 19 = .ok (.aload_n 0, 1) := by decide +kernel
theorem dX9_end_20 : decode cX9_end 20 = .ok (.iload_n 1, 1) := by decide +kernel
theorem dX9_end_21 : decode cX9_end 21 = .ok (.putfield 116, 3) := by decide +kernel
theorem dX9_end_24 : decode cX9_end 24 = .ok (.iconst 1, 1) := by decide +kernel
theorem dX9_end_25 : decode cX9_end 25 = .ok (.ireturn, 1) := by decide +kernel
theorem dX9_isAt_0 : decode cX9_isAt 0 = .ok (.aload_n 0, 1) := by decide +kernel
theorem dX9_isAt_1 : decode cX9_isAt 1 = .ok (.getfield 119, 3) := by decide +kernel
theorem dX9_isAt_4 : decode cX9_isAt 4 = .ok (.aload_n 0, 1) := by decide +kernel
theorem dX9_isAt_5 : decode cX9_isAt 5 = .ok (.getfield 122, 3) := by decide +kernel
theorem dX9_isAt_8 : decode cX9_isAt 8 = .ok (.if_icmp .ge 33, 3) := by decide +kernel
theorem dX9_isAt_11 : decode cX9_isAt 11 = .ok (.aload_n 0, 1) := by decide +kernel
theorem dX9_isAt_12 : decode cX9_isAt 12 = .ok (.getfield 49, 3) := by decide +kernel
theorem dX9_isAt_15 : decode cX9_isAt 15 = .ok (.aload_n 0, 1) := by decide +kernel
theorem dX9_isAt_16 : decode cX9_isAt 16 = .ok (.getfield 119, 3) := by decide +kernel
theorem dX9_isAt_19 : decode cX9_isAt 19 = .ok (.baload, 1) := by decide +kernel
theorem dX9_isAt_20 : decode cX9_isAt 20 = .ok (.iload_n 1, 1) := by decide +kernel
theorem dX9_isAt_21 : decode cX9_isAt 21 = .ok (.if_icmp .lt 20, 3) := by decide +kernel
theorem dX9_isAt_24 : decode cX9_isAt 24 = .ok (.aload_n 0, 1) := by decide +kernel
theorem dX9_isAt_25 : decode cX9_isAt 25 = .ok (.getfield 49, 3) := by decide +kernel
theorem dX9_isAt_28 : decode cX9_isAt 28 = .ok (.aload_n 0, 1) := by decide +kernel
theorem dX9_isAt_29 : decode cX9_isAt 29 = .ok (.getfield 119, 3) := by decide +kernel
theorem dX9_isAt_32 : decode cX9_isAt 32 = .ok (.baload, 1) := by decide +kernel
theorem dX9_isAt_33 : decode cX9_isAt 33 = .ok (.iload_n 2, 1) := by decide +kernel
theorem dX9_isAt_34 : decode cX9_isAt 34 = .ok (.if_icmp .gt 7, 3) := by decide +kernel
theorem dX9_isAt_37 : decode cX9_isAt 37 = .ok (.iconst 1, 1) := by decide +kernel
theorem dX9_isAt_38 : decode cX9_isAt 38 = .ok (.goto 4, 3) := by decide +kernel
theorem dX9_isAt_41 : decode cX9_isAt 41 = .ok (.iconst 0, 1) := by decide +kernel
theorem dX9_isAt_42 : decode cX9_isAt 42 = .ok (.ireturn, 1) := by decide +kernel
theorem dX9_blanks_0 : decode cX9_blanks 0 = .ok (.aload_n 0, 1) := by decide +kernel
theorem dX9_blanks_1 : decode cX9_blanks 1 = .ok (.bipush 32, 2) := by decide +kernel
theorem dX9_blanks_3 : decode cX9_blanks 3 = .ok (.bipush 32, 2) := by decide +kernel
theorem dX9_blanks_5 : decode cX9_blanks 5 = .ok (.invokevirtual 125, 3) := by decide +kernel
theorem dX9_blanks_8 : decode cX9_blanks 8 = .ok (.ifCond .eq 16, 3) := by decide +kernel
theorem dX9_blanks_11 : decode cX9_blanks 11 = .ok (.aload_n 0, 1) := by decide +kernel
theorem dX9_blanks_12 : decode cX9_blanks 12 = .ok (.dup, 1) := by decide +kernel
theorem dX9_blanks_13 : decode cX9_blanks 13 = .ok (.getfield 119, 3) := by decide +kernel
theorem dX9_blanks_16 : decode cX9_blanks 16 = .ok (.iconst 1, 1) := by decide +kernel
theorem dX9_blanks_17 : decode cX9_blanks 17 = .ok (.iadd, 1) := by decide +kernel
theorem dX9_blanks_18 : decode cX9_blanks 18 = .ok (.putfield 119, 3) := by decide +kernel
theorem dX9_blanks_21 : decode cX9_blanks 21 = .ok (.goto (-21), 3) := by decide +kernel
theorem dX9_blanks_24 : decode cX9_blanks 24 = .ok (.aload_n 0, 1) := by decide +kernel
theorem dX9_blanks_25 : decode cX9_blanks 25 = .ok (.aload_n 0, 1) := by decide +kernel
theorem dX9_blanks_26 : decode cX9_blanks 26 = .ok (.getfield 119, 3) := by decide +kernel
theorem dX9_blanks_29 : decode cX9_blanks 29 = .ok (.putfield 129, 3) := by decide +kernel
theorem dX9_blanks_32 : decode cX9_blanks 32 = .ok (.return_, 1) := by decide +kernel
theorem dX9_word_0 : decode cX9_word 0 = .ok (.aload_n 0, 1) := by decide +kernel
theorem dX9_word_1 : decode cX9_word 1 = .ok (.invokevirtual 132, 3) := by decide +kernel
theorem dX9_word_4 : decode cX9_word 4 = .ok (.aload_n 0, 1) := by decide +kernel
theorem dX9_word_5 : decode cX9_word 5 = .ok (.bipush 97, 2) := by decide +kernel
theorem dX9_word_7 : decode cX9_word 7 = .ok (.bipush 122, 2) := by decide +kernel
theorem dX9_word_9 : decode cX9_word 9 = .ok (.invokevirtual 125, 3) := by decide +kernel
theorem dX9_word_12 : decode cX9_word 12 = .ok (.ifCond .eq 16, 3) := by decide +kernel
theorem dX9_word_15 : decode cX9_word 15 = .ok (.aload_n 0, 1) := by decide +kernel
theorem dX9_word_16 : decode cX9_word 16 = .ok (.dup, 1) := by decide +kernel
theorem dX9_word_17 : decode cX9_word 17 = .ok (.getfield 119, 3) := by decide +kernel
theorem dX9_word_20 : decode cX9_word 20 = .ok (.iconst 1, 1) := by decide +kernel
theorem dX9_word_21 : decode cX9_word 21 = .ok (.iadd, 1) := by decide +kernel
theorem dX9_word_22 : decode cX9_word 22 = .ok (.putfield 119, 3) := by decide +kernel
theorem dX9_word_25 : decode cX9_word 25 = .ok (.goto (-21), 3) := by decide +kernel
theorem dX9_word_28 : decode cX9_word 28 = .ok (.return_, 1) := by decide +kernel
theorem dX9_isWord_0 : decode cX9_isWord 0 = .ok (.aload_n 0, 1) := by decide +kernel
theorem dX9_isWord_1 : decode cX9_isWord 1 = .ok (.getfield 119, 3) := by decide +kernel
theorem dX9_isWord_4 : decode cX9_isWord 4 = .ok (.aload_n 0, 1) := by decide +kernel
theorem dX9_isWord_5 : decode cX9_isWord 5 = .ok (.getfield 129, 3) := by decide +kernel
theorem dX9_isWord_8 : decode cX9_isWord 8 = .ok (.isub, 1) := by decide +kernel
theorem dX9_isWord_9 : decode cX9_isWord 9 = .ok (.aload_n 1, 1) := by decide +kernel
theorem dX9_isWord_10 : decode cX9_isWord 10 = .ok (.invokevirtual 135, 3) := by decide +kernel
theorem dX9_isWord_13 : decode cX9_isWord 13 = .ok (.if_icmp .ne 7, 3) := by decide +kernel
theorem dX9_isWord_16 : decode cX9_isWord 16 = .ok (.iconst 1, 1) := by decide +kernel
theorem dX9_isWord_17 : decode cX9_isWord 17 = .ok (.goto 4, 3) := by decide +kernel
theorem dX9_isWord_20 : decode cX9_isWord 20 = .ok (.iconst 0, 1) := by decide +kernel
theorem dX9_isWord_21 : decode cX9_isWord 21 = .ok (.istore_n 2, 1) := by decide +kernel
theorem dX9_isWord_22 : decode cX9_isWord 22 = .ok (.iconst 0, 1) := by decide +kernel
theorem dX9_isWord_23 : decode cX9_isWord 23 = .ok (.istore_n 3, 1) := by decide +kernel
theorem dX9_isWord_24 : decode cX9_isWord 24 = .ok (.iload_n 2, 1) := by decide +kernel
theorem dX9_isWord_25 : decode cX9_isWord 25 = .ok (.ifCond .eq 42, 3) := by decide +kernel
theorem dX9_isWord_28 : decode cX9_isWord 28 = .ok (.iload_n 3, 1) := by decide +kernel
theorem dX9_isWord_29 : decode cX9_isWord 29 = .ok (.aload_n 1, 1) := by decide +kernel
theorem dX9_isWord_30 : decode cX9_isWord 30 = .ok (.invokevirtual 135, 3) := by decide +kernel
theorem dX9_isWord_33 : decode cX9_isWord 33 = .ok (.if_icmp .ge 34, 3) := by decide +kernel
theorem dX9_isWord_36 : decode cX9_isWord 36 = .ok (.aload_n 0, 1) := by decide +kernel
theorem dX9_isWord_37 : decode cX9_isWord 37 = .ok (.getfield 49, 3) := by decide +kernel
theorem dX9_isWord_40 : decode cX9_isWord 40 = .ok (.aload_n 0, 1) := by decide +kernel
theorem dX9_isWord_41 : decode cX9_isWord 41 = .ok (.getfield 129, 3) := by decide +kernel
theorem dX9_isWord_44 : decode cX9_isWord 44 = .ok (.iload_n 3, 1) := by decide +kernel
theorem dX9_isWord_45 : decode cX9_isWord 45 = .ok (.iadd, 1) := by decide +kernel
theorem dX9_isWord_46 : decode cX9_isWord 46 = .ok (.baload, 1) := by decide +kernel
theorem dX9_isWord_47 : decode cX9_isWord 47 = .ok (.aload_n 1, 1) := by decide +kernel
theorem dX9_isWord_48 : decode cX9_isWord 48 = .ok (.iload_n 3, 1) := by decide +kernel
theorem dX9_isWord_49 : decode cX9_isWord 49 = .ok (.invokevirtual 141, 3) := by decide +kernel
theorem dX9_isWord_52 : decode cX9_isWord 52 = .ok (.if_icmp .ne 7, 3) := by decide +kernel
theorem dX9_isWord_55 : decode cX9_isWord 55 = .ok (.iconst 1, 1) := by decide +kernel
theorem dX9_isWord_56 : decode cX9_isWord 56 = .ok (.goto 4, 3) := by decide +kernel
theorem dX9_isWord_59 : decode cX9_isWord 59 = .ok (.iconst 0, 1) := by decide +kernel
theorem dX9_isWord_60 : decode cX9_isWord 60 = .ok (.istore_n 2, 1) := by decide +kernel
theorem dX9_isWord_61 : decode cX9_isWord 61 = .ok (.iinc 3 1, 3) := by decide +kernel
theorem dX9_isWord_64 : decode cX9_isWord 64 = .ok (.goto (-40), 3) := by decide +kernel
theorem dX9_isWord_67 : decode cX9_isWord 67 = .ok (.iload_n 2, 1) := by decide +kernel
theorem dX9_isWord_68 : decode cX9_isWord 68 = .ok (.ireturn, 1) := by decide +kernel
theorem dX9_readCondition_0 : decode cX9_readCondition 0 = .ok (.aload_n 0, 1) := by decide +kernel
theorem dX9_readCondition_1 : decode cX9_readCondition 1 = .ok (.invokevirtual 145, 3) := by decide +kernel
theorem dX9_readCondition_4 : decode cX9_readCondition 4 = .ok (.aload_n 0, 1) := by decide +kernel
theorem dX9_readCondition_5 : decode cX9_readCondition 5 = .ok (.ldc 148, 2) := by decide +kernel
theorem dX9_readCondition_7 : decode cX9_readCondition 7 = .ok (.invokevirtual 150, 3) := by decide +kernel
theorem dX9_readCondition_10 : decode cX9_readCondition 10 = .ok (.ifCond .eq 7, 3) := by decide +kernel
theorem dX9_readCondition_13 : decode cX9_readCondition 13 = .ok (.iconst 0, 1) := by decide +kernel
theorem dX9_readCondition_14 : decode cX9_readCondition 14 = .ok (.goto 43, 3) := by decide +kernel
theorem dX9_readCondition_17 : decode cX9_readCondition 17 = .ok (.aload_n 0, 1) := by decide +kernel
theorem dX9_readCondition_18 : decode cX9_readCondition 18 = .ok (.ldc 154, 2) := by decide +kernel
theorem dX9_readCondition_20 : decode cX9_readCondition 20 = .ok (.invokevirtual 150, 3) := by decide +kernel
theorem dX9_readCondition_23 : decode cX9_readCondition 23 = .ok (.ifCond .eq 7, 3) := by decide +kernel
theorem dX9_readCondition_26 : decode cX9_readCondition 26 = .ok (.iconst 1, 1) := by decide +kernel
theorem dX9_readCondition_27 : decode cX9_readCondition 27 = .ok (.goto 30, 3) := by decide +kernel
theorem dX9_readCondition_30 : decode cX9_readCondition 30 = .ok (.aload_n 0, 1) := by decide +kernel
theorem dX9_readCondition_31 : decode cX9_readCondition 31 = .ok (.ldc 156, 2) := by decide +kernel
theorem dX9_readCondition_33 : decode cX9_readCondition 33 = .ok (.invokevirtual 150, 3) := by decide +kernel
theorem dX9_readCondition_36 : decode cX9_readCondition 36 = .ok (.ifCond .eq 7, 3) := by decide +kernel
theorem dX9_readCondition_39 : decode cX9_readCondition 39 = .ok (.iconst 2, 1) := by decide +kernel
theorem dX9_readCondition_40 : decode cX9_readCondition 40 = .ok (.goto 17, 3) := by decide +kernel
theorem dX9_readCondition_43 : decode cX9_readCondition 43 = .ok (.aload_n 0, 1) := by decide +kernel
theorem dX9_readCondition_44 : decode cX9_readCondition 44 = .ok (.ldc 158, 2) := by decide +kernel
theorem dX9_readCondition_46 : decode cX9_readCondition 46 = .ok (.invokevirtual 150, 3) := by decide +kernel
theorem dX9_readCondition_49 : decode cX9_readCondition 49 = .ok (.ifCond .eq 7, 3) := by decide +kernel
theorem dX9_readCondition_52 : decode cX9_readCondition 52 = .ok (.iconst 3, 1) := by decide +kernel
theorem dX9_readCondition_53 : decode cX9_readCondition 53 = .ok (.goto 4, 3) := by decide +kernel
theorem dX9_readCondition_56 : decode cX9_readCondition 56 = .ok (.iconst (-1), 1) := by decide +kernel
theorem dX9_readCondition_57 : decode cX9_readCondition 57 = .ok (.istore_n 2, 1) := by decide +kernel
theorem dX9_readCondition_58 : decode cX9_readCondition 58 = .ok (.iload_n 2, 1) := by decide +kernel
theorem dX9_readCondition_59 : decode cX9_readCondition 59 = .ok (.ifCond .ge 5, 3) := by decide +kernel
theorem dX9_readCondition_62 : decode cX9_readCondition 62 = .ok (.iconst 0, 1) := by decide +kernel
theorem dX9_readCondition_63 : decode cX9_readCondition 63 = .ok (.ireturn, 1) := by decide +kernel
theorem dX9_readCondition_64 : decode cX9_readCondition 64 = .ok (.aload_n 0, 1) := by decide +kernel
theorem dX9_readCondition_65 : decode cX9_readCondition 65 = .ok (.invokevirtual 132, 3) := by decide +kernel
theorem dX9_readCondition_68 : decode cX9_readCondition 68 = .ok (.iload_n 2, 1) := by decide +kernel
theorem dX9_readCondition_69 : decode cX9_readCondition 69 = .ok (.iconst 1, 1) := by decide +kernel
theorem dX9_readCondition_70 : decode cX9_readCondition 70 = .ok (.if_icmp .ne 8, 3) := by decide +kernel
theorem dX9_readCondition_73 : decode cX9_readCondition 73 = .ok (.bipush 60, 2) := by decide +kernel
theorem dX9_readCondition_75 : decode cX9_readCondition 75 = .ok (.goto 15, 3) := by decide +kernel
theorem dX9_readCondition_78 : decode cX9_readCondition 78 = .ok (.iload_n 2, 1) := by decide +kernel
theorem dX9_readCondition_79 : decode cX9_readCondition 79 = .ok (.iconst 3, 1) := by decide +kernel
theorem dX9_readCondition_80 : decode cX9_readCondition 80 = .ok (.if_icmp .ne 8, 3) := by decide +kernel
theorem dX9_readCondition_83 : decode cX9_readCondition 83 = .ok (.bipush 61, 2) := by decide +kernel
theorem dX9_readCondition_85 : decode cX9_readCondition 85 = .ok (.goto 5, 3) := by decide +kernel
theorem dX9_readCondition_88 : decode cX9_readCondition 88 = .ok (.bipush 62, 2) := by decide +kernel
theorem dX9_readCondition_90 : decode cX9_readCondition 90 = .ok (.istore_n 3, 1) := by decide +kernel
theorem dX9_readCondition_91 : decode cX9_readCondition 91 = .ok (.aload_n 0, 1) := by decide +kernel
theorem dX9_readCondition_92 : decode cX9_readCondition 92 = .ok (.iload_n 3, 1) := by decide +kernel
theorem dX9_readCondition_93 : decode cX9_readCondition 93 = .ok (.iload_n 3, 1) := by decide +kernel
theorem dX9_readCondition_94 : decode cX9_readCondition 94 = .ok (.invokevirtual 125, 3) := by decide +kernel
theorem dX9_readCondition_97 : decode cX9_readCondition 97 = .ok (.ifCond .ne 5, 3) := by decide +kernel
theorem dX9_readCondition_100 : decode cX9_readCondition 100 = .ok (.iconst 0, 1) := by decide +kernel
theorem dX9_readCondition_101 : decode cX9_readCondition 101 = .ok (.ireturn, 1) := by decide +kernel
theorem dX9_readCondition_102 : decode cX9_readCondition 102 = .ok (.aload_n 0, 1) := by decide +kernel
theorem dX9_readCondition_103 : decode cX9_readCondition 103 = .ok (.dup, 1) := by decide +kernel
theorem dX9_readCondition_104 : decode cX9_readCondition 104 = .ok (.getfield 119, 3) := by decide +kernel
theorem dX9_readCondition_107 : decode cX9_readCondition 107 = .ok (.iconst 1, 1) := by decide +kernel
theorem dX9_readCondition_108 : decode cX9_readCondition 108 = .ok (.iadd, 1) := by decide +kernel
theorem dX9_readCondition_109 : decode cX9_readCondition 109 = .ok (.putfield 119, 3) := by decide +kernel
theorem dX9_readCondition_112 : decode cX9_readCondition 112 = .ok (.aload_n 0, 1) := by decide +kernel
theorem dX9_readCondition_113 : decode cX9_readCondition 113 = .ok (.invokevirtual 132, 3) := by decide +kernel
theorem dX9_readCondition_116 : decode cX9_readCondition 116 = .ok (.iconst 0, 1) := by decide +kernel
theorem dX9_readCondition_117 : decode cX9_readCondition 117 = .ok (.istore 4, 2) := by decide +kernel
theorem dX9_readCondition_119 : decode cX9_readCondition 119 = .ok (.aload_n 0, 1) := by decide +kernel
theorem dX9_readCondition_120 : decode cX9_readCondition 120 = .ok (.bipush 48, 2) := by decide +kernel
theorem dX9_readCondition_122 : decode cX9_readCondition 122 = .ok (.bipush 57, 2) := by decide +kernel
theorem dX9_readCondition_124 : decode cX9_readCondition 124 = .ok (.invokevirtual 125, 3) := by decide +kernel
theorem dX9_readCondition_127 : decode cX9_readCondition 127 = .ok (.ifCond .eq 54, 3) := by decide +kernel
theorem dX9_readCondition_130 : decode cX9_readCondition 130 = .ok (.aload_n 0, 1) := by decide +kernel
theorem dX9_readCondition_131 : decode cX9_readCondition 131 = .ok (.getfield 119, 3) := by decide +kernel
theorem dX9_readCondition_134 : decode cX9_readCondition 134 = .ok (.aload_n 0, 1) := by decide +kernel
theorem dX9_readCondition_135 : decode cX9_readCondition 135 = .ok (.getfield 129, 3) := by decide +kernel
theorem dX9_readCondition_138 : decode cX9_readCondition 138 = .ok (.isub, 1) := by decide +kernel
theorem dX9_readCondition_139 : decode cX9_readCondition 139 = .ok (.iconst 5, 1) := by decide +kernel
theorem dX9_readCondition_140 : decode cX9_readCondition 140 = .ok (.if_icmp .ge 24, 3) := by decide +kernel
theorem dX9_readCondition_143 : decode cX9_readCondition 143 = .ok (.bipush 10, 2) := by decide +kernel
theorem dX9_readCondition_145 : decode cX9_readCondition 145 = .ok (.iload 4, 2) := by decide +kernel
theorem dX9_readCondition_147 : decode cX9_readCondition 147 = .ok (.imul, 1) := by decide +kernel
theorem dX9_readCondition_148 : decode cX9_readCondition 148 = .ok (.aload_n 0, 1) := by decide +kernel
theorem dX9_readCondition_149 : decode cX9_readCondition 149 = .ok (.getfield 49, 3) := by decide +kernel
theorem dX9_readCondition_152 : decode cX9_readCondition 152 = .ok (.aload_n 0, 1) := by decide +kernel
theorem dX9_readCondition_153 : decode cX9_readCondition 153 = .ok (.getfield 119, 3) := by decide +kernel
theorem dX9_readCondition_156 : decode cX9_readCondition 156 = .ok (.baload, 1) := by decide +kernel
theorem dX9_readCondition_157 : decode cX9_readCondition 157 = .ok (.iadd, 1) := by decide +kernel
theorem dX9_readCondition_158 : decode cX9_readCondition 158 = .ok (.bipush 48, 2) := by decide +kernel
theorem dX9_readCondition_160 : decode cX9_readCondition 160 = .ok (.isub, 1) := by decide +kernel
theorem dX9_readCondition_161 : decode cX9_readCondition 161 = .ok (.goto 5, 3) := by decide +kernel
theorem dX9_readCondition_164 : decode cX9_readCondition 164 = .ok (.iload 4, 2) := by decide +kernel
theorem dX9_readCondition_166 : decode cX9_readCondition 166 = .ok (.istore 4, 2) := by decide +kernel
theorem dX9_readCondition_168 : decode cX9_readCondition 168 = .ok (.aload_n 0, 1) := by decide +kernel
theorem dX9_readCondition_169 : decode cX9_readCondition 169 = .ok (.dup, 1) := by decide +kernel
theorem dX9_readCondition_170 : decode cX9_readCondition 170 = .ok (.getfield 119, 3) := by decide +kernel
theorem dX9_readCondition_173 : decode cX9_readCondition 173 = .ok (.iconst 1, 1) := by decide +kernel
theorem dX9_readCondition_174 : decode cX9_readCondition 174 = .ok (.iadd, 1) := by decide +kernel
theorem dX9_readCondition_175 : decode cX9_readCondition 175 = .ok (.putfield 119, 3) := by decide +kernel
theorem dX9_readCondition_178 : decode cX9_readCondition 178 = .ok (.goto (-59), 3) := by decide +kernel
theorem dX9_readCondition_181 : decode cX9_readCondition 181 = .ok (.aload_n 0, 1) := by decide +kernel
theorem dX9_readCondition_182 : decode cX9_readCondition 182 = .ok (.getfield 119, 3) := by decide +kernel
theorem dX9_readCondition_185 : decode cX9_readCondition 185 = .ok (.aload_n 0, 1) := by decide +kernel
theorem dX9_readCondition_186 : decode cX9_readCondition 186 = .ok (.getfield 129, 3) := by decide +kernel
theorem dX9_readCondition_189 : decode cX9_readCondition 189 = .ok (.if_icmp .eq 16, 3) := by decide +kernel
theorem dX9_readCondition_192 : decode cX9_readCondition 192 = .ok (.aload_n 0, 1) := by decide +kernel
theorem dX9_readCondition_193 : decode cX9_readCondition 193 = .ok (.getfield 119, 3) := by decide +kernel
theorem dX9_readCondition_196 : decode cX9_readCondition 196 = .ok (.aload_n 0, 1) := by decide +kernel
theorem dX9_readCondition_197 : decode cX9_readCondition 197 = .ok (.getfield 129, 3) := by decide +kernel
theorem dX9_readCondition_200 : decode cX9_readCondition 200 = .ok (.isub, 1) := by decide +kernel
theorem dX9_readCondition_201 : decode cX9_readCondition 201 = .ok (.iconst 5, 1) := by decide +kernel
theorem dX9_readCondition_202 : decode cX9_readCondition 202 = .ok (.if_icmp .le 5, 3) := by decide +kernel
theorem dX9_readCondition_205 : decode cX9_readCondition 205 = .ok (.iconst 0, 1) := by decide +kernel
theorem dX9_readCondition_206 : decode cX9_readCondition 206 = .ok (.ireturn, 1) := by decide +kernel
theorem dX9_readCondition_207 : decode cX9_readCondition 207 = .ok (.aload_n 0, 1) := by decide +kernel
theorem dX9_readCondition_208 : decode cX9_readCondition 208 = .ok (.getfield 43, 3) := by decide +kernel
theorem dX9_readCondition_211 : decode cX9_readCondition 211 = .ok (.iconst 4, 1) := by decide +kernel
theorem dX9_readCondition_212 : decode cX9_readCondition 212 = .ok (.iload_n 1, 1) := by decide +kernel
theorem dX9_readCondition_213 : decode cX9_readCondition 213 = .ok (.imul, 1) := by decide +kernel
theorem dX9_readCondition_214 : decode cX9_readCondition 214 = .ok (.aload_n 0, 1) := by decide +kernel
theorem dX9_readCondition_215 : decode cX9_readCondition 215 = .ok (.getfield 40, 3) := by decide +kernel
theorem dX9_readCondition_218 : decode cX9_readCondition 218 = .ok (.iload_n 1, 1) := by decide +kernel
theorem dX9_readCondition_219 : decode cX9_readCondition 219 = .ok (.iaload, 1) := by decide +kernel
theorem dX9_readCondition_220 : decode cX9_readCondition 220 = .ok (.iadd, 1) := by decide +kernel
theorem dX9_readCondition_221 : decode cX9_readCondition 221 = .ok (.iload_n 2, 1) := by decide +kernel
theorem dX9_readCondition_222 : decode cX9_readCondition 222 = .ok (.iastore, 1) := by decide +kernel
theorem dX9_readCondition_223 : decode cX9_readCondition 223 = .ok (.aload_n 0, 1) := by decide +kernel
theorem dX9_readCondition_224 : decode cX9_readCondition 224 = .ok (.getfield 46, 3) := by decide +kernel
theorem dX9_readCondition_227 : decode cX9_readCondition 227 = .ok (.iconst 4, 1) := by decide +kernel
theorem dX9_readCondition_228 : decode cX9_readCondition 228 = .ok (.iload_n 1, 1) := by decide +kernel
theorem dX9_readCondition_229 : decode cX9_readCondition 229 = .ok (.imul, 1) := by decide +kernel
theorem dX9_readCondition_230 : decode cX9_readCondition 230 = .ok (.aload_n 0, 1) := by decide +kernel
theorem dX9_readCondition_231 : decode cX9_readCondition 231 = .ok (.getfield 40, 3) := by decide +kernel
theorem dX9_readCondition_234 : decode cX9_readCondition 234 = .ok (.iload_n 1, 1) := by decide +kernel
theorem dX9_readCondition_235 : decode cX9_readCondition 235 = .ok (.iaload, 1) := by decide +kernel
theorem dX9_readCondition_236 : decode cX9_readCondition 236 = .ok (.iadd, 1) := by decide +kernel
theorem dX9_readCondition_237 : decode cX9_readCondition 237 = .ok (.iload 4, 2) := by decide +kernel
theorem dX9_readCondition_239 : decode cX9_readCondition 239 = .ok (.iastore, 1) := by decide +kernel
theorem dX9_readCondition_240 : decode cX9_readCondition 240 = .ok (.aload_n 0, 1) := by decide +kernel
theorem dX9_readCondition_241 : decode cX9_readCondition 241 = .ok (.getfield 40, 3) := by decide +kernel
theorem dX9_readCondition_244 : decode cX9_readCondition 244 = .ok (.iload_n 1, 1) := by decide +kernel
theorem dX9_readCondition_245 : decode cX9_readCondition 245 = .ok (.dup2, 1) := by decide +kernel
theorem dX9_readCondition_246 : decode cX9_readCondition 246 = .ok (.iaload, 1) := by decide +kernel
theorem dX9_readCondition_247 : decode cX9_readCondition 247 = .ok (.iconst 1, 1) := by decide +kernel
theorem dX9_readCondition_248 : decode cX9_readCondition 248 = .ok (.iadd, 1) := by decide +kernel
theorem dX9_readCondition_249 : decode cX9_readCondition 249 = .ok (.iastore, 1) := by decide +kernel
theorem dX9_readCondition_250 : decode cX9_readCondition 250 = .ok (.iconst 1, 1) := by decide +kernel
theorem dX9_readCondition_251 : decode cX9_readCondition 251 = .ok (.ireturn, 1) := by decide +kernel
theorem dX9_readRule_0 : decode cX9_readRule 0 = .ok (.iload_n 1, 1) := by decide +kernel
theorem dX9_readRule_1 : decode cX9_readRule 1 = .ok (.bipush 8, 2) := by decide +kernel
theorem dX9_readRule_3 : decode cX9_readRule 3 = .ok (.if_icmp .ne 9, 3) := by decide +kernel
theorem dX9_readRule_6 : decode cX9_readRule 6 = .ok (.aload_n 0, 1) := by decide +kernel
theorem dX9_readRule_7 : decode cX9_readRule 7 = .ok (.invokevirtual 132, 3) := by decide +kernel
theorem dX9_readRule_10 : decode cX9_readRule 10 = .ok (.iconst 0, 1) := by decide +kernel
theorem dX9_readRule_11 : decode cX9_readRule 11 = .ok (.ireturn, 1) := by decide +kernel
theorem dX9_readRule_12 : decode cX9_readRule 12 = .ok (.bipush 8, 2) := by decide +kernel
theorem dX9_readRule_14 : decode cX9_readRule 14 = .ok (.iload_n 1, 1) := by decide +kernel
theorem dX9_readRule_15 : decode cX9_readRule 15 = .ok (.iadd, 1) := by decide +kernel
theorem dX9_readRule_16 : decode cX9_readRule 16 = .ok (.istore_n 2, 1) := by decide +kernel
theorem dX9_readRule_17 : decode cX9_readRule 17 = .ok (.aload_n 0, 1) := by decide +kernel
theorem dX9_readRule_18 : decode cX9_readRule 18 = .ok (.invokevirtual 145, 3) := by decide +kernel
theorem dX9_readRule_21 : decode cX9_readRule 21 = .ok (.aload_n 0, 1) := by decide +kernel
theorem dX9_readRule_22 : decode cX9_readRule 22 = .ok (.getfield 37, 3) := by decide +kernel
theorem dX9_readRule_25 : decode cX9_readRule 25 = .ok (.iload_n 2, 1) := by decide +kernel
theorem dX9_readRule_26 : decode cX9_readRule 26 = .ok (.aload_n 0, 1) := by decide +kernel
theorem dX9_readRule_27 : decode cX9_readRule 27 = .ok (.ldc 159, 2) := by decide +kernel
theorem dX9_readRule_29 : decode cX9_readRule 29 = .ok (.invokevirtual 150, 3) := by decide +kernel
theorem dX9_readRule_32 : decode cX9_readRule 32 = .ok (.ifCond .eq 7, 3) := by decide +kernel
theorem dX9_readRule_35 : decode cX9_readRule 35 = .ok (.iconst 0, 1) := by decide +kernel
theorem dX9_readRule_36 : decode cX9_readRule 36 = .ok (.goto 17, 3) := by decide +kernel
theorem dX9_readRule_39 : decode cX9_readRule 39 = .ok (.aload_n 0, 1) := by decide +kernel
theorem dX9_readRule_40 : decode cX9_readRule 40 = .ok (.ldc 161, 2) := by decide +kernel
theorem dX9_readRule_42 : decode cX9_readRule 42 = .ok (.invokevirtual 150, 3) := by decide +kernel
theorem dX9_readRule_45 : decode cX9_readRule 45 = .ok (.ifCond .eq 7, 3) := by decide +kernel
theorem dX9_readRule_48 : decode cX9_readRule 48 = .ok (.iconst 1, 1) := by decide +kernel
theorem dX9_readRule_49 : decode cX9_readRule 49 = .ok (.goto 4, 3) := by decide +kernel
theorem dX9_readRule_52 : decode cX9_readRule 52 = .ok (.iconst (-1), 1) := by decide +kernel
theorem dX9_readRule_53 : decode cX9_readRule 53 = .ok (.iastore, 1) := by decide +kernel
theorem dX9_readRule_54 : decode cX9_readRule 54 = .ok (.aload_n 0, 1) := by decide +kernel
theorem dX9_readRule_55 : decode cX9_readRule 55 = .ok (.getfield 40, 3) := by decide +kernel
theorem dX9_readRule_58 : decode cX9_readRule 58 = .ok (.iload_n 2, 1) := by decide +kernel
theorem dX9_readRule_59 : decode cX9_readRule 59 = .ok (.iconst 0, 1) := by decide +kernel
theorem dX9_readRule_60 : decode cX9_readRule 60 = .ok (.iastore, 1) := by decide +kernel
theorem dX9_readRule_61 : decode cX9_readRule 61 = .ok (.aload_n 0, 1) := by decide +kernel
theorem dX9_readRule_62 : decode cX9_readRule 62 = .ok (.getfield 37, 3) := by decide +kernel
theorem dX9_readRule_65 : decode cX9_readRule 65 = .ok (.iload_n 2, 1) := by decide +kernel
theorem dX9_readRule_66 : decode cX9_readRule 66 = .ok (.iaload, 1) := by decide +kernel
theorem dX9_readRule_67 : decode cX9_readRule 67 = .ok (.ifCond .ge 5, 3) := by decide +kernel
theorem dX9_readRule_70 : decode cX9_readRule 70 = .ok (.iconst 0, 1) := by decide +kernel
theorem dX9_readRule_71 : decode cX9_readRule 71 = .ok (.ireturn, 1) := by decide +kernel
theorem dX9_readRule_72 : decode cX9_readRule 72 = .ok (.aload_n 0, 1) := by decide +kernel
theorem dX9_readRule_73 : decode cX9_readRule 73 = .ok (.iload_n 2, 1) := by decide +kernel
theorem dX9_readRule_74 : decode cX9_readRule 74 = .ok (.invokevirtual 163, 3) := by decide +kernel
theorem dX9_readRule_77 : decode cX9_readRule 77 = .ok (.ifCond .ne 5, 3) := by decide +kernel
theorem dX9_readRule_80 : decode cX9_readRule 80 = .ok (.iconst 0, 1) := by decide +kernel
theorem dX9_readRule_81 : decode cX9_readRule 81 = .ok (.ireturn, 1) := by decide +kernel
theorem dX9_readRule_82 : decode cX9_readRule 82 = .ok (.aload_n 0, 1) := by decide +kernel
theorem dX9_readRule_83 : decode cX9_readRule 83 = .ok (.getfield 119, 3) := by decide +kernel
theorem dX9_readRule_86 : decode cX9_readRule 86 = .ok (.istore_n 3, 1) := by decide +kernel
theorem dX9_readRule_87 : decode cX9_readRule 87 = .ok (.aload_n 0, 1) := by decide +kernel
theorem dX9_readRule_88 : decode cX9_readRule 88 = .ok (.invokevirtual 145, 3) := by decide +kernel
theorem dX9_readRule_91 : decode cX9_readRule 91 = .ok (.aload_n 0, 1) := by decide +kernel
theorem dX9_readRule_92 : decode cX9_readRule 92 = .ok (.ldc 166, 2) := by decide +kernel
theorem dX9_readRule_94 : decode cX9_readRule 94 = .ok (.invokevirtual 150, 3) := by decide +kernel
theorem dX9_readRule_97 : decode cX9_readRule 97 = .ok (.ifCond .ne 10, 3) := by decide +kernel
theorem dX9_readRule_100 : decode cX9_readRule 100 = .ok (.aload_n 0, 1) := by decide +kernel
theorem dX9_readRule_101 : decode cX9_readRule 101 = .ok (.iload_n 3, 1) := by decide +kernel
theorem dX9_readRule_102 : decode cX9_readRule 102 = .ok (.putfield 119, 3) := by decide +kernel
theorem dX9_readRule_105 : decode cX9_readRule 105 = .ok (.iconst 1, 1) := by decide +kernel
theorem dX9_readRule_106 : decode cX9_readRule 106 = .ok (.ireturn, 1) := by decide +kernel
theorem dX9_readRule_107 : decode cX9_readRule 107 = .ok (.aload_n 0, 1) := by decide +kernel
theorem dX9_readRule_108 : decode cX9_readRule 108 = .ok (.getfield 40, 3) := by decide +kernel
theorem dX9_readRule_111 : decode cX9_readRule 111 = .ok (.iload_n 2, 1) := by decide +kernel
theorem dX9_readRule_112 : decode cX9_readRule 112 = .ok (.iaload, 1) := by decide +kernel
theorem dX9_readRule_113 : decode cX9_readRule 113 = .ok (.iconst 4, 1) := by decide +kernel
theorem dX9_readRule_114 : decode cX9_readRule 114 = .ok (.if_icmp .ne 5, 3) := by decide +kernel
theorem dX9_readRule_117 : decode cX9_readRule 117 = .ok (.iconst 0, 1) := by decide +kernel
theorem dX9_readRule_118 : decode cX9_readRule 118 = .ok (.ireturn, 1) := by decide +kernel
theorem dX9_readRule_119 : decode cX9_readRule 119 = .ok (.goto (-47), 3) := by decide +kernel
theorem dX9_readAll_0 : decode cX9_readAll 0 = .ok (.aload_n 0, 1) := by decide +kernel
theorem dX9_readAll_1 : decode cX9_readAll 1 = .ok (.iconst 0, 1) := by decide +kernel
theorem dX9_readAll_2 : decode cX9_readAll 2 = .ok (.putfield 119, 3) := by decide +kernel
theorem dX9_readAll_5 : decode cX9_readAll 5 = .ok (.aload_n 0, 1) := by decide +kernel
theorem dX9_readAll_6 : decode cX9_readAll 6 = .ok (.invokevirtual 132, 3) := by decide +kernel
theorem dX9_readAll_9 : decode cX9_readAll 9 = .ok (.aload_n 0, 1) := by decide +kernel
theorem dX9_readAll_10 : decode cX9_readAll 10 = .ok (.getfield 119, 3) := by decide +kernel
theorem dX9_readAll_13 : decode cX9_readAll 13 = .ok (.aload_n 0, 1) := by decide +kernel
theorem dX9_readAll_14 : decode cX9_readAll 14 = .ok (.getfield 122, 3) := by decide +kernel
theorem dX9_readAll_17 : decode cX9_readAll 17 = .ok (.if_icmp .ne 5, 3) := by decide +kernel
theorem dX9_readAll_20 : decode cX9_readAll 20 = .ok (.iconst 0, 1) := by decide +kernel
theorem dX9_readAll_21 : decode cX9_readAll 21 = .ok (.ireturn, 1) := by decide +kernel
theorem dX9_readAll_22 : decode cX9_readAll 22 = .ok (.iconst 0, 1) := by decide +kernel
theorem dX9_readAll_23 : decode cX9_readAll 23 = .ok (.istore_n 1, 1) := by decide +kernel
theorem dX9_readAll_24 : decode cX9_readAll 24 = .ok (.aload_n 0, 1) := by decide +kernel
theorem dX9_readAll_25 : decode cX9_readAll 25 = .ok (.iload_n 1, 1) := by decide +kernel
theorem dX9_readAll_26 : decode cX9_readAll 26 = .ok (.invokevirtual 168, 3) := by decide +kernel
theorem dX9_readAll_29 : decode cX9_readAll 29 = .ok (.ifCond .ne 5, 3) := by decide +kernel
theorem dX9_readAll_32 : decode cX9_readAll 32 = .ok (.iconst (-1), 1) := by decide +kernel
theorem dX9_readAll_33 : decode cX9_readAll 33 = .ok (.ireturn, 1) := by decide +kernel
theorem dX9_readAll_34 : decode cX9_readAll 34 = .ok (.iinc 1 1, 3) := by decide +kernel
theorem dX9_readAll_37 : decode cX9_readAll 37 = .ok (.aload_n 0, 1) := by decide +kernel
theorem dX9_readAll_38 : decode cX9_readAll 38 = .ok (.invokevirtual 132, 3) := by decide +kernel
theorem dX9_readAll_41 : decode cX9_readAll 41 = .ok (.aload_n 0, 1) := by decide +kernel
theorem dX9_readAll_42 : decode cX9_readAll 42 = .ok (.getfield 119, 3) := by decide +kernel
theorem dX9_readAll_45 : decode cX9_readAll 45 = .ok (.aload_n 0, 1) := by decide +kernel
theorem dX9_readAll_46 : decode cX9_readAll 46 = .ok (.getfield 122, 3) := by decide +kernel
theorem dX9_readAll_49 : decode cX9_readAll 49 = .ok (.if_icmp .ne 5, 3) := by decide +kernel
theorem dX9_readAll_52 : decode cX9_readAll 52 = .ok (.iload_n 1, 1) := by decide +kernel
theorem dX9_readAll_53 : decode cX9_readAll 53 = .ok (.ireturn, 1) := by decide +kernel
theorem dX9_readAll_54 : decode cX9_readAll 54 = .ok (.aload_n 0, 1) := by decide +kernel
theorem dX9_readAll_55 : decode cX9_readAll 55 = .ok (.bipush 59, 2) := by decide +kernel
theorem dX9_readAll_57 : decode cX9_readAll 57 = .ok (.bipush 59, 2) := by decide +kernel
theorem dX9_readAll_59 : decode cX9_readAll 59 = .ok (.invokevirtual 125, 3) := by decide +kernel
theorem dX9_readAll_62 : decode cX9_readAll 62 = .ok (.ifCond .ne 5, 3) := by decide +kernel
theorem dX9_readAll_65 : decode cX9_readAll 65 = .ok (.iconst (-1), 1) := by decide +kernel
theorem dX9_readAll_66 : decode cX9_readAll 66 = .ok (.ireturn, 1) := by decide +kernel
theorem dX9_readAll_67 : decode cX9_readAll 67 = .ok (.aload_n 0, 1) := by decide +kernel
theorem dX9_readAll_68 : decode cX9_readAll 68 = .ok (.dup, 1) := by decide +kernel
theorem dX9_readAll_69 : decode cX9_readAll 69 = .ok (.getfield 119, 3) := by decide +kernel
theorem dX9_readAll_72 : decode cX9_readAll 72 = .ok (.iconst 1, 1) := by decide +kernel
theorem dX9_readAll_73 : decode cX9_readAll 73 = .ok (.iadd, 1) := by decide +kernel
theorem dX9_readAll_74 : decode cX9_readAll 74 = .ok (.putfield 119, 3) := by decide +kernel
theorem dX9_readAll_77 : decode cX9_readAll 77 = .ok (.goto (-53), 3) := by decide +kernel
theorem dX9_rules_0 : decode cX9_rules 0 = .ok (.aload_n 0, 1) := by decide +kernel
theorem dX9_rules_1 : decode cX9_rules 1 = .ok (.iconst 0, 1) := by decide +kernel
theorem dX9_rules_2 : decode cX9_rules 2 = .ok (.putfield 78, 3) := by decide +kernel
theorem dX9_rules_5 : decode cX9_rules 5 = .ok (.aload_n 0, 1) := by decide +kernel
theorem dX9_rules_6 : decode cX9_rules 6 = .ok (.aload_n 0, 1) := by decide +kernel
theorem dX9_rules_7 : decode cX9_rules 7 = .ok (.getfield 116, 3) := by decide +kernel
theorem dX9_rules_10 : decode cX9_rules 10 = .ok (.putfield 122, 3) := by decide +kernel
theorem dX9_rules_13 : decode cX9_rules 13 = .ok (.aload_n 0, 1) := by decide +kernel
theorem dX9_rules_14 : decode cX9_rules 14 = .ok (.iconst 0, 1) := by decide +kernel
theorem dX9_rules_15 : decode cX9_rules 15 = .ok (.putfield 116, 3) := by decide +kernel
theorem dX9_rules_18 : decode cX9_rules 18 = .ok (.aload_n 0, 1) := by decide +kernel
theorem dX9_rules_19 : decode cX9_rules 19 = .ok (.invokevirtual 171, 3) := by decide +kernel
theorem dX9_rules_22 : decode cX9_rules 22 = .ok (.istore_n 1, 1) := by decide +kernel
theorem dX9_rules_23 : decode cX9_rules 23 = .ok (.aload_n 0, 1) := by decide +kernel
theorem dX9_rules_24 : decode cX9_rules 24 = .ok (.iload_n 1, 1) := by decide +kernel
theorem dX9_rules_25 : decode cX9_rules 25 = .ok (.ifCond .ge 10, 3) := by decide +kernel
theorem dX9_rules_28 : decode cX9_rules 28 = .ok (.aload_n 0, 1) := by decide +kernel
theorem dX9_rules_29 : decode cX9_rules 29 = .ok (.getfield 129, 3) := by decide +kernel
theorem dX9_rules_32 : decode cX9_rules 32 = .ok (.goto 4, 3) := by decide +kernel
theorem dX9_rules_35 : decode cX9_rules 35 = .ok (.iconst (-1), 1) := by decide +kernel
theorem dX9_rules_36 : decode cX9_rules 36 = .ok (.putfield 53, 3) := by decide +kernel
theorem dX9_rules_39 : decode cX9_rules 39 = .ok (.aload_n 0, 1) := by decide +kernel
theorem dX9_rules_40 : decode cX9_rules 40 = .ok (.iload_n 1, 1) := by decide +kernel
theorem dX9_rules_41 : decode cX9_rules 41 = .ok (.ifCond .ge 7, 3) := by decide +kernel
theorem dX9_rules_44 : decode cX9_rules 44 = .ok (.iconst 1, 1) := by decide +kernel
theorem dX9_rules_45 : decode cX9_rules 45 = .ok (.goto 4, 3) := by decide +kernel
theorem dX9_rules_48 : decode cX9_rules 48 = .ok (.iconst 0, 1) := by decide +kernel
theorem dX9_rules_49 : decode cX9_rules 49 = .ok (.iconst 1, 1) := by decide +kernel
theorem dX9_rules_50 : decode cX9_rules 50 = .ok (.invokevirtual 88, 3) := by decide +kernel
theorem dX9_rules_53 : decode cX9_rules 53 = .ok (.ifCond .eq 5, 3) := by decide +kernel
theorem dX9_rules_56 : decode cX9_rules 56 = .ok (.iconst 0, 1) := by decide +kernel
theorem dX9_rules_57 : decode cX9_rules 57 = .ok (.ireturn, 1) := by decide +kernel
theorem dX9_rules_58 : decode cX9_rules 58 = .ok (.aload_n 0, 1) := by decide +kernel
theorem dX9_rules_59 : decode cX9_rules 59 = .ok (.iload_n 1, 1) := by decide +kernel
theorem dX9_rules_60 : decode cX9_rules 60 = .ok (.putfield 174, 3) := by decide +kernel
theorem dX9_rules_63 : decode cX9_rules 63 = .ok (.iconst 0, 1) := by decide +kernel
theorem dX9_rules_64 : decode cX9_rules 64 = .ok (.istore_n 2, 1) := by decide +kernel
theorem dX9_rules_65 : decode cX9_rules 65 = .ok (.iload_n 2, 1) := by decide +kernel
theorem dX9_rules_66 : decode cX9_rules 66 = .ok (.iload_n 1, 1) := by decide +kernel
theorem dX9_rules_67 : decode cX9_rules 67 = .ok (.if_icmp .ge 103, 3) := by decide +kernel
theorem dX9_rules_70 : decode cX9_rules 70 = .ok (.aload_n 0, 1) := by decide +kernel
theorem dX9_rules_71 : decode cX9_rules 71 = .ok (.getfield 37, 3) := by decide +kernel
theorem dX9_rules_74 : decode cX9_rules 74 = .ok (.iload_n 2, 1) := by decide +kernel
theorem dX9_rules_75 : decode cX9_rules 75 = .ok (.aload_n 0, 1) := by decide +kernel
theorem dX9_rules_76 : decode cX9_rules 76 = .ok (.getfield 37, 3) := by decide +kernel
theorem dX9_rules_79 : decode cX9_rules 79 = .ok (.bipush 8, 2) := by decide +kernel
theorem dX9_rules_81 : decode cX9_rules 81 = .ok (.iload_n 2, 1) := by decide +kernel
theorem dX9_rules_82 : decode cX9_rules 82 = .ok (.iadd, 1) := by decide +kernel
theorem dX9_rules_83 : decode cX9_rules 83 = .ok (.iaload, 1) := by decide +kernel
theorem dX9_rules_84 : decode cX9_rules 84 = .ok (.iastore, 1) := by decide +kernel
theorem dX9_rules_85 : decode cX9_rules 85 = .ok (.aload_n 0, 1) := by decide +kernel
theorem dX9_rules_86 : decode cX9_rules 86 = .ok (.getfield 40, 3) := by decide +kernel
theorem dX9_rules_89 : decode cX9_rules 89 = .ok (.iload_n 2, 1) := by decide +kernel
theorem dX9_rules_90 : decode cX9_rules 90 = .ok (.aload_n 0, 1) := by decide +kernel
theorem dX9_rules_91 : decode cX9_rules 91 = .ok (.getfield 40, 3) := by decide +kernel
theorem dX9_rules_94 : decode cX9_rules 94 = .ok (.bipush 8, 2) := by decide +kernel
theorem dX9_rules_96 : decode cX9_rules 96 = .ok (.iload_n 2, 1) := by decide +kernel
theorem dX9_rules_97 : decode cX9_rules 97 = .ok (.iadd, 1) := by decide +kernel
theorem dX9_rules_98 : decode cX9_rules 98 = .ok (.iaload, 1) := by decide +kernel
theorem dX9_rules_99 : decode cX9_rules 99 = .ok (.iastore, 1) := by decide +kernel
theorem dX9_rules_100 : decode cX9_rules 100 = .ok (.iconst 0, 1) := by decide +kernel
theorem dX9_rules_101 : decode cX9_rules 101 = .ok (.istore_n 3, 1) := by decide +kernel
theorem dX9_rules_102 : decode cX9_rules 102 = .ok (.iload_n 3, 1) := by decide +kernel
theorem dX9_rules_103 : decode cX9_rules 103 = .ok (.aload_n 0, 1) := by decide +kernel
theorem dX9_rules_104 : decode cX9_rules 104 = .ok (.getfield 40, 3) := by decide +kernel
theorem dX9_rules_107 : decode cX9_rules 107 = .ok (.iload_n 2, 1) := by decide +kernel
theorem dX9_rules_108 : decode cX9_rules 108 = .ok (.iaload, 1) := by decide +kernel
theorem dX9_rules_109 : decode cX9_rules 109 = .ok (.if_icmp .ge 55, 3) := by decide +kernel
theorem dX9_rules_112 : decode cX9_rules 112 = .ok (.aload_n 0, 1) := by decide +kernel
theorem dX9_rules_113 : decode cX9_rules 113 = .ok (.getfield 43, 3) := by decide +kernel
theorem dX9_rules_116 : decode cX9_rules 116 = .ok (.iconst 4, 1) := by decide +kernel
theorem dX9_rules_117 : decode cX9_rules 117 = .ok (.iload_n 2, 1) := by decide +kernel
theorem dX9_rules_118 : decode cX9_rules 118 = .ok (.imul, 1) := by decide +kernel
theorem dX9_rules_119 : decode cX9_rules 119 = .ok (.iload_n 3, 1) := by decide +kernel
theorem dX9_rules_120 : decode cX9_rules 120 = .ok (.iadd, 1) := by decide +kernel
theorem dX9_rules_121 : decode cX9_rules 121 = .ok (.aload_n 0, 1) := by decide +kernel
theorem dX9_rules_122 : decode cX9_rules 122 = .ok (.getfield 43, 3) := by decide +kernel
theorem dX9_rules_125 : decode cX9_rules 125 = .ok (.iconst 4, 1) := by decide +kernel
theorem dX9_rules_126 : decode cX9_rules 126 = .ok (.bipush 8, 2) := by decide +kernel
theorem dX9_rules_128 : decode cX9_rules 128 = .ok (.iload_n 2, 1) := by decide +kernel
theorem dX9_rules_129 : decode cX9_rules 129 = .ok (.iadd, 1) := by decide +kernel
theorem dX9_rules_130 : decode cX9_rules 130 = .ok (.imul, 1) := by decide +kernel
