theorem dX7_land_46 : decode cX7_land 46 = .ok (.lcmp, 1) := by decide +kernel
theorem dX7_land_47 : decode cX7_land 47 = .ok (.ifCond .eq 13, 3) := by decide +kernel
theorem dX7_land_50 : decode cX7_land 50 = .ok (.new 85, 3) := by decide +kernel
theorem dX7_land_53 : decode cX7_land 53 = .ok (.dup, 1) := by decide +kernel
theorem dX7_land_54 : decode cX7_land 54 = .ok (.ldc 87, 2) := by decide +kernel
theorem dX7_land_56 : decode cX7_land 56 = .ok (.invokespecial 89, 3) := by decide +kernel
theorem dX7_land_59 : decode cX7_land 59 = .ok (.athrow, 1) := by decide +kernel
theorem dX7_land_60 : decode cX7_land 60 = .ok (.aload_n 0, 1) := by decide +kernel
theorem dX7_land_61 : decode cX7_land 61 = .ok (.iload_n 1, 1) := by decide +kernel
theorem dX7_land_62 : decode cX7_land 62 = .ok (.invokevirtual 53, 3) := by decide +kernel
theorem dX7_land_65 : decode cX7_land 65 = .ok (.aload_n 0, 1) := by decide +kernel
theorem dX7_land_66 : decode cX7_land 66 = .ok (.lload 4, 2) := by decide +kernel
theorem dX7_land_68 : decode cX7_land 68 = .ok (.iload_n 1, 1) := by decide +kernel
theorem dX7_land_69 : decode cX7_land 69 = .ok (.invokevirtual 90, 3) := by decide +kernel
theorem dX7_land_72 : decode cX7_land 72 = .ok (.aload_n 0, 1) := by decide +kernel
theorem dX7_land_73 : decode cX7_land 73 = .ok (.lload 4, 2) := by decide +kernel
theorem dX7_land_75 : decode cX7_land 75 = .ok (.iload_n 3, 1) := by decide +kernel
theorem dX7_land_76 : decode cX7_land 76 = .ok (.invokevirtual 94, 3) := by decide +kernel
theorem dX7_land_79 : decode cX7_land 79 = .ok (.lstore 6, 2) := by decide +kernel
theorem dX7_land_81 : decode cX7_land 81 = .ok (.lload 6, 2) := by decide +kernel
theorem dX7_land_83 : decode cX7_land 83 = .ok (.lconst 0, 1) := by decide +kernel
theorem dX7_land_84 : decode cX7_land 84 = .ok (.lcmp, 1) := by decide +kernel
theorem dX7_land_85 : decode cX7_land 85 = .ok (.ifCond .gt 13, 3) := by decide +kernel
theorem dX7_land_88 : decode cX7_land 88 = .ok (.new 98, 3) := by decide +kernel
theorem dX7_land_91 : decode cX7_land 91 = .ok (.dup, 1) := by decide +kernel
theorem dX7_land_92 : decode cX7_land 92 = .ok (.ldc 100, 2) := by decide +kernel
theorem dX7_land_94 : decode cX7_land 94 = .ok (.invokespecial 102, 3) := by decide +kernel
theorem dX7_land_97 : decode cX7_land 97 = .ok (.athrow, 1) := by decide +kernel
theorem dX7_land_98 : decode cX7_land 98 = .ok (.new 9, 3) := by decide +kernel
theorem dX7_land_101 : decode cX7_land 101 = .ok (.dup, 1) := by decide +kernel
theorem dX7_land_102 : decode cX7_land 102 = .ok (.aload_n 0, 1) := by decide +kernel
theorem dX7_land_103 : decode cX7_land 103 = .ok (.getfield 57, 3) := by decide +kernel
theorem dX7_land_106 : decode cX7_land 106 = .ok (.iconst 3, 1) := by decide +kernel
theorem dX7_land_107 : decode cX7_land 107 = .ok (.iload_n 1, 1) := by decide +kernel
theorem dX7_land_108 : decode cX7_land 108 = .ok (.iconst (-1), 1) := by decide +kernel
theorem dX7_land_109 : decode cX7_land 109 = .ok (.iconst 0, 1) := by decide +kernel
theorem dX7_land_110 : decode cX7_land 110 = .ok (.iload_n 2, 1) := by decide +kernel
theorem dX7_land_111 : decode cX7_land 111 = .ok (.invokespecial 60, 3) := by decide +kernel
theorem dX7_land_114 : decode cX7_land 114 = .ok (.astore 8, 2) := by decide +kernel
theorem dX7_land_116 : decode cX7_land 116 = .ok (.aload 8, 2) := by decide +kernel
theorem dX7_land_118 : decode cX7_land 118 = .ok (.aload_n 0, 1) := by decide +kernel
theorem dX7_land_119 : decode cX7_land 119 = .ok (.iload_n 2, 1) := by decide +kernel
theorem dX7_land_120 : decode cX7_land 120 = .ok (.iload_n 3, 1) := by decide +kernel
theorem dX7_land_121 : decode cX7_land 121 = .ok (.lload 4, 2) := by decide +kernel
theorem dX7_land_123 : decode cX7_land 123 = .ok (.lload 6, 2) := by decide +kernel
theorem dX7_land_125 : decode cX7_land 125 = .ok (.invokevirtual 103, 3) := by decide +kernel
theorem dX7_land_128 : decode cX7_land 128 = .ok (.putfield 107, 3) := by decide +kernel
theorem dX7_land_131 : decode cX7_land 131 = .ok (.aload_n 0, 1) := by decide +kernel
theorem dX7_land_132 : decode cX7_land 132 = .ok (.aload 8, 2) := by decide +kernel
theorem dX7_land_134 : decode cX7_land 134 = .ok (.invokevirtual 63, 3) := by decide +kernel
theorem dX7_land_137 : decode cX7_land 137 = .ok (.ireturn, 1) := by decide +kernel
theorem dX7_cancel_0 : decode cX7_cancel 0 = .ok (.aload_n 0, 1) := by decide +kernel
theorem dX7_cancel_1 : decode cX7_cancel 1 = .ok (.iload_n 1, 1) := by decide +kernel
theorem dX7_cancel_2 : decode cX7_cancel 2 = .ok (.invokevirtual 111, 3) := by decide +kernel
theorem dX7_cancel_5 : decode cX7_cancel 5 = .ok (.astore_n 2, 1) := by decide +kernel
theorem dX7_cancel_6 : decode cX7_cancel 6 = .ok (.aload_n 2, 1) := by decide +kernel
theorem dX7_cancel_7 : decode cX7_cancel 7 = .ok (.getfield 115, 3) := by decide +kernel
theorem dX7_cancel_10 : decode cX7_cancel 10 = .ok (.ifCond .eq 13, 3) := by decide +kernel
theorem dX7_cancel_13 : decode cX7_cancel 13 = .ok (.new 98, 3) := by decide +kernel
theorem dX7_cancel_16 : decode cX7_cancel 16 = .ok (.dup, 1) := by decide +kernel
theorem dX7_cancel_17 : decode cX7_cancel 17 = .ok (.ldc 119, 2) := by decide +kernel
theorem dX7_cancel_19 : decode cX7_cancel 19 = .ok (.invokespecial 102, 3) := by decide +kernel
theorem dX7_cancel_22 : decode cX7_cancel 22 = .ok (.athrow, 1) := by decide +kernel
theorem dX7_cancel_23 : decode cX7_cancel 23 = .ok (.aload_n 0, 1) := by decide +kernel
theorem dX7_cancel_24 : decode cX7_cancel 24 = .ok (.aload_n 2, 1) := by decide +kernel
theorem dX7_cancel_25 : decode cX7_cancel 25 = .ok (.getfield 121, 3) := by decide +kernel
theorem dX7_cancel_28 : decode cX7_cancel 28 = .ok (.invokevirtual 124, 3) := by decide +kernel
theorem dX7_cancel_31 : decode cX7_cancel 31 = .ok (.aload_n 2, 1) := by decide +kernel
theorem dX7_cancel_32 : decode cX7_cancel 32 = .ok (.getfield 127, 3) := by decide +kernel
theorem dX7_cancel_35 : decode cX7_cancel 35 = .ok (.ifCond .ne 8, 3) := by decide +kernel
theorem dX7_cancel_38 : decode cX7_cancel 38 = .ok (.aload_n 0, 1) := by decide +kernel
theorem dX7_cancel_39 : decode cX7_cancel 39 = .ok (.aload_n 2, 1) := by decide +kernel
theorem dX7_cancel_40 : decode cX7_cancel 40 = .ok (.invokevirtual 130, 3) := by decide +kernel
theorem dX7_cancel_43 : decode cX7_cancel 43 = .ok (.aload_n 2, 1) := by decide +kernel
theorem dX7_cancel_44 : decode cX7_cancel 44 = .ok (.iconst 1, 1) := by decide +kernel
theorem dX7_cancel_45 : decode cX7_cancel 45 = .ok (.putfield 115, 3) := by decide +kernel
theorem dX7_cancel_48 : decode cX7_cancel 48 = .ok (.aload_n 0, 1) := by decide +kernel
theorem dX7_cancel_49 : decode cX7_cancel 49 = .ok (.getfield 18, 3) := by decide +kernel
theorem dX7_cancel_52 : decode cX7_cancel 52 = .ok (.aload_n 2, 1) := by decide +kernel
theorem dX7_cancel_53 : decode cX7_cancel 53 = .ok (.invokevirtual 134, 3) := by decide +kernel
theorem dX7_cancel_56 : decode cX7_cancel 56 = .ok (.aload_n 0, 1) := by decide +kernel
theorem dX7_cancel_57 : decode cX7_cancel 57 = .ok (.getfield 18, 3) := by decide +kernel
theorem dX7_cancel_60 : decode cX7_cancel 60 = .ok (.getfield 137, 3) := by decide +kernel
theorem dX7_cancel_63 : decode cX7_cancel 63 = .ok (.ireturn, 1) := by decide +kernel
theorem dX7_close_0 : decode cX7_close 0 = .ok (.iload_n 1, 1) := by decide +kernel
theorem dX7_close_1 : decode cX7_close 1 = .ok (.iconst 0, 1) := by decide +kernel
theorem dX7_close_2 : decode cX7_close 2 = .ok (.sipush 364, 3) := by decide +kernel
theorem dX7_close_5 : decode cX7_close 5 = .ok (.invokestatic 48, 3) := by decide +kernel
theorem dX7_close_8 : decode cX7_close 8 = .ok (.aload_n 0, 1) := by decide +kernel
theorem dX7_close_9 : decode cX7_close 9 = .ok (.iload_n 1, 1) := by decide +kernel
theorem dX7_close_10 : decode cX7_close 10 = .ok (.invokevirtual 124, 3) := by decide +kernel
theorem dX7_close_13 : decode cX7_close 13 = .ok (.aload_n 0, 1) := by decide +kernel
theorem dX7_close_14 : decode cX7_close 14 = .ok (.getfield 40, 3) := by decide +kernel
theorem dX7_close_17 : decode cX7_close 17 = .ok (.istore_n 2, 1) := by decide +kernel
theorem dX7_close_18 : decode cX7_close 18 = .ok (.aload_n 0, 1) := by decide +kernel
theorem dX7_close_19 : decode cX7_close 19 = .ok (.iload_n 1, 1) := by decide +kernel
theorem dX7_close_20 : decode cX7_close 20 = .ok (.putfield 40, 3) := by decide +kernel
theorem dX7_close_23 : decode cX7_close 23 = .ok (.iload_n 2, 1) := by decide +kernel
theorem dX7_close_24 : decode cX7_close 24 = .ok (.ireturn, 1) := by decide +kernel
theorem dX7_setWeight_0 : decode cX7_setWeight 0 = .ok (.iload_n 1, 1) := by decide +kernel
theorem dX7_setWeight_1 : decode cX7_setWeight 1 = .ok (.iconst 0, 1) := by decide +kernel
theorem dX7_setWeight_2 : decode cX7_setWeight 2 = .ok (.iconst 5, 1) := by decide +kernel
theorem dX7_setWeight_3 : decode cX7_setWeight 3 = .ok (.invokestatic 48, 3) := by decide +kernel
theorem dX7_setWeight_6 : decode cX7_setWeight 6 = .ok (.iload_n 2, 1) := by decide +kernel
theorem dX7_setWeight_7 : decode cX7_setWeight 7 = .ok (.iconst 1, 1) := by decide +kernel
theorem dX7_setWeight_8 : decode cX7_setWeight 8 = .ok (.bipush 100, 2) := by decide +kernel
theorem dX7_setWeight_10 : decode cX7_setWeight 10 = .ok (.invokestatic 48, 3) := by decide +kernel
theorem dX7_setWeight_13 : decode cX7_setWeight 13 = .ok (.aload_n 0, 1) := by decide +kernel
theorem dX7_setWeight_14 : decode cX7_setWeight 14 = .ok (.iload_n 1, 1) := by decide +kernel
theorem dX7_setWeight_15 : decode cX7_setWeight 15 = .ok (.invokevirtual 140, 3) := by decide +kernel
theorem dX7_setWeight_18 : decode cX7_setWeight 18 = .ok (.istore_n 3, 1) := by decide +kernel
theorem dX7_setWeight_19 : decode cX7_setWeight 19 = .ok (.iload_n 1, 1) := by decide +kernel
theorem dX7_setWeight_20 : decode cX7_setWeight 20 = .ok (.ifCond .lt 19, 3) := by decide +kernel
theorem dX7_setWeight_23 : decode cX7_setWeight 23 = .ok (.iload_n 1, 1) := by decide +kernel
theorem dX7_setWeight_24 : decode cX7_setWeight 24 = .ok (.aload_n 0, 1) := by decide +kernel
theorem dX7_setWeight_25 : decode cX7_setWeight 25 = .ok (.getfield 36, 3) := by decide +kernel
theorem dX7_setWeight_28 : decode cX7_setWeight 28 = .ok (.arraylength, 1) := by decide +kernel
theorem dX7_setWeight_29 : decode cX7_setWeight 29 = .ok (.if_icmp .ge 10, 3) := by decide +kernel
theorem dX7_setWeight_32 : decode cX7_setWeight 32 = .ok (.aload_n 0, 1) := by decide +kernel
theorem dX7_setWeight_33 : decode cX7_setWeight 33 = .ok (.getfield 36, 3) := by decide +kernel
theorem dX7_setWeight_36 : decode cX7_setWeight 36 = .ok (.iload_n 1, 1) := by decide +kernel
theorem dX7_setWeight_37 : decode cX7_setWeight 37 = .ok (.iload_n 2, 1) := by decide +kernel
theorem dX7_setWeight_38 : decode cX7_setWeight 38 = .ok (.iastore, 1) := by decide +kernel
theorem dX7_setWeight_39 : decode cX7_setWeight 39 = .ok (.iload_n 3, 1) := by decide +kernel
theorem dX7_setWeight_40 : decode cX7_setWeight 40 = .ok (.ireturn, 1) := by decide +kernel
theorem dX7_movements_0 : decode cX7_movements 0 = .ok (.aload_n 0, 1) := by decide +kernel
theorem dX7_movements_1 : decode cX7_movements 1 = .ok (.getfield 57, 3) := by decide +kernel
theorem dX7_movements_4 : decode cX7_movements 4 = .ok (.ireturn, 1) := by decide +kernel
theorem dX7_kindOf_0 : decode cX7_kindOf 0 = .ok (.aload_n 0, 1) := by decide +kernel
theorem dX7_kindOf_1 : decode cX7_kindOf 1 = .ok (.iload_n 1, 1) := by decide +kernel
theorem dX7_kindOf_2 : decode cX7_kindOf 2 = .ok (.invokevirtual 111, 3) := by decide +kernel
theorem dX7_kindOf_5 : decode cX7_kindOf 5 = .ok (.getfield 127, 3) := by decide +kernel
theorem dX7_kindOf_8 : decode cX7_kindOf 8 = .ok (.ireturn, 1) := by decide +kernel
theorem dX7_dayOf_0 : decode cX7_dayOf 0 = .ok (.aload_n 0, 1) := by decide +kernel
theorem dX7_dayOf_1 : decode cX7_dayOf 1 = .ok (.iload_n 1, 1) := by decide +kernel
theorem dX7_dayOf_2 : decode cX7_dayOf 2 = .ok (.invokevirtual 111, 3) := by decide +kernel
theorem dX7_dayOf_5 : decode cX7_dayOf 5 = .ok (.getfield 121, 3) := by decide +kernel
theorem dX7_dayOf_8 : decode cX7_dayOf 8 = .ok (.ireturn, 1) := by decide +kernel
theorem dX7_isCancelled_0 : decode cX7_isCancelled 0 = .ok (.aload_n 0, 1) := by decide +kernel
theorem dX7_isCancelled_1 : decode cX7_isCancelled 1 = .ok (.iload_n 1, 1) := by decide +kernel
theorem dX7_isCancelled_2 : decode cX7_isCancelled 2 = .ok (.invokevirtual 111, 3) := by decide +kernel
theorem dX7_isCancelled_5 : decode cX7_isCancelled 5 = .ok (.getfield 115, 3) := by decide +kernel
theorem dX7_isCancelled_8 : decode cX7_isCancelled 8 = .ok (.ireturn, 1) := by decide +kernel
theorem dX7_placeOf_0 : decode cX7_placeOf 0 = .ok (.aload_n 0, 1) := by decide +kernel
theorem dX7_placeOf_1 : decode cX7_placeOf 1 = .ok (.iload_n 1, 1) := by decide +kernel
theorem dX7_placeOf_2 : decode cX7_placeOf 2 = .ok (.invokevirtual 111, 3) := by decide +kernel
theorem dX7_placeOf_5 : decode cX7_placeOf 5 = .ok (.astore_n 2, 1) := by decide +kernel
theorem dX7_placeOf_6 : decode cX7_placeOf 6 = .ok (.aload_n 2, 1) := by decide +kernel
theorem dX7_placeOf_7 : decode cX7_placeOf 7 = .ok (.getfield 115, 3) := by decide +kernel
theorem dX7_placeOf_10 : decode cX7_placeOf 10 = .ok (.ifCond .eq 7, 3) := by decide +kernel
theorem dX7_placeOf_13 : decode cX7_placeOf 13 = .ok (.iconst (-1), 1) := by decide +kernel
theorem dX7_placeOf_14 : decode cX7_placeOf 14 = .ok (.goto 11, 3) := by decide +kernel
theorem dX7_placeOf_17 : decode cX7_placeOf 17 = .ok (.aload_n 0, 1) := by decide +kernel
theorem dX7_placeOf_18 : decode cX7_placeOf 18 = .ok (.getfield 18, 3) := by decide +kernel
theorem dX7_placeOf_21 : decode cX7_placeOf 21 = .ok (.aload_n 2, 1) := by decide +kernel
theorem dX7_placeOf_22 : decode cX7_placeOf 22 = .ok (.invokevirtual 144, 3) := by decide +kernel
theorem dX7_placeOf_25 : decode cX7_placeOf 25 = .ok (.ireturn, 1) := by decide +kernel
theorem dX7_partOf_0 : decode cX7_partOf 0 = .ok (.aload_n 0, 1) := by decide +kernel
theorem dX7_partOf_1 : decode cX7_partOf 1 = .ok (.iload_n 1, 1) := by decide +kernel
theorem dX7_partOf_2 : decode cX7_partOf 2 = .ok (.invokevirtual 111, 3) := by decide +kernel
theorem dX7_partOf_5 : decode cX7_partOf 5 = .ok (.astore_n 3, 1) := by decide +kernel
theorem dX7_partOf_6 : decode cX7_partOf 6 = .ok (.aload_n 0, 1) := by decide +kernel
theorem dX7_partOf_7 : decode cX7_partOf 7 = .ok (.iload_n 2, 1) := by decide +kernel
theorem dX7_partOf_8 : decode cX7_partOf 8 = .ok (.invokevirtual 111, 3) := by decide +kernel
theorem dX7_partOf_11 : decode cX7_partOf 11 = .ok (.astore 4, 2) := by decide +kernel
theorem dX7_partOf_13 : decode cX7_partOf 13 = .ok (.aload_n 3, 1) := by decide +kernel
theorem dX7_partOf_14 : decode cX7_partOf 14 = .ok (.getfield 127, 3) := by decide +kernel
theorem dX7_partOf_17 : decode cX7_partOf 17 = .ok (.iconst 3, 1) := by decide +kernel
theorem dX7_partOf_18 : decode cX7_partOf 18 = .ok (.if_icmp .eq 13, 3) := by decide +kernel
theorem dX7_partOf_21 : decode cX7_partOf 21 = .ok (.new 98, 3) := by decide +kernel
theorem dX7_partOf_24 : decode cX7_partOf 24 = .ok (.dup, 1) := by decide +kernel
theorem dX7_partOf_25 : decode cX7_partOf 25 = .ok (.ldc 147, 2) := by decide +kernel
theorem dX7_partOf_27 : decode cX7_partOf 27 = .ok (.invokespecial 102, 3) := by decide +kernel
theorem dX7_partOf_30 : decode cX7_partOf 30 = .ok (.athrow, 1) := by decide +kernel
theorem dX7_partOf_31 : decode cX7_partOf 31 = .ok (.aload_n 3, 1) := by decide +kernel
theorem dX7_partOf_32 : decode cX7_partOf 32 = .ok (.aload 4, 2) := by decide +kernel
theorem dX7_partOf_34 : decode cX7_partOf 34 = .ok (.invokevirtual 149, 3) := by decide +kernel
theorem dX7_partOf_37 : decode cX7_partOf 37 = .ok (.astore 5, 2) := by decide +kernel
theorem dX7_partOf_39 : decode cX7_partOf 39 = .ok (.aload 5, 2) := by decide +kernel
theorem dX7_partOf_41 : decode cX7_partOf 41 = .ok (.ifnonnull 7, 3) := by decide +kernel
theorem dX7_partOf_44 : decode cX7_partOf 44 = .ok (.iconst 0, 1) := by decide +kernel
theorem dX7_partOf_45 : decode cX7_partOf 45 = .ok (.goto 8, 3) := by decide +kernel
theorem dX7_partOf_48 : decode cX7_partOf 48 = .ok (.aload 5, 2) := by decide +kernel
theorem dX7_partOf_50 : decode cX7_partOf 50 = .ok (.getfield 153, 3) := by decide +kernel
theorem dX7_partOf_53 : decode cX7_partOf 53 = .ok (.ireturn, 1) := by decide +kernel
theorem dX7_costOf_0 : decode cX7_costOf 0 = .ok (.aload_n 0, 1) := by decide +kernel
theorem dX7_costOf_1 : decode cX7_costOf 1 = .ok (.iload_n 1, 1) := by decide +kernel
theorem dX7_costOf_2 : decode cX7_costOf 2 = .ok (.invokevirtual 111, 3) := by decide +kernel
theorem dX7_costOf_5 : decode cX7_costOf 5 = .ok (.astore_n 3, 1) := by decide +kernel
theorem dX7_costOf_6 : decode cX7_costOf 6 = .ok (.aload_n 3, 1) := by decide +kernel
theorem dX7_costOf_7 : decode cX7_costOf 7 = .ok (.getfield 127, 3) := by decide +kernel
theorem dX7_costOf_10 : decode cX7_costOf 10 = .ok (.iconst 1, 1) := by decide +kernel
theorem dX7_costOf_11 : decode cX7_costOf 11 = .ok (.if_icmp .ne 10, 3) := by decide +kernel
theorem dX7_costOf_14 : decode cX7_costOf 14 = .ok (.aload_n 3, 1) := by decide +kernel
theorem dX7_costOf_15 : decode cX7_costOf 15 = .ok (.getfield 115, 3) := by decide +kernel
theorem dX7_costOf_18 : decode cX7_costOf 18 = .ok (.ifCond .eq 13, 3) := by decide +kernel
theorem dX7_costOf_21 : decode cX7_costOf 21 = .ok (.new 98, 3) := by decide +kernel
theorem dX7_costOf_24 : decode cX7_costOf 24 = .ok (.dup, 1) := by decide +kernel
theorem dX7_costOf_25 : decode cX7_costOf 25 = .ok (.ldc 158, 2) := by decide +kernel
theorem dX7_costOf_27 : decode cX7_costOf 27 = .ok (.invokespecial 102, 3) := by decide +kernel
theorem dX7_costOf_30 : decode cX7_costOf 30 = .ok (.athrow, 1) := by decide +kernel
theorem dX7_costOf_31 : decode cX7_costOf 31 = .ok (.aload_n 0, 1) := by decide +kernel
theorem dX7_costOf_32 : decode cX7_costOf 32 = .ok (.aload_n 3, 1) := by decide +kernel
theorem dX7_costOf_33 : decode cX7_costOf 33 = .ok (.getfield 160, 3) := by decide +kernel
theorem dX7_costOf_36 : decode cX7_costOf 36 = .ok (.aload_n 3, 1) := by decide +kernel
theorem dX7_costOf_37 : decode cX7_costOf 37 = .ok (.getfield 121, 3) := by decide +kernel
theorem dX7_costOf_40 : decode cX7_costOf 40 = .ok (.iload_n 2, 1) := by decide +kernel
theorem dX7_costOf_41 : decode cX7_costOf 41 = .ok (.invokevirtual 163, 3) := by decide +kernel
theorem dX7_costOf_44 : decode cX7_costOf 44 = .ok (.pop, 1) := by decide +kernel
theorem dX7_costOf_45 : decode cX7_costOf 45 = .ok (.aload_n 3, 1) := by decide +kernel
theorem dX7_costOf_46 : decode cX7_costOf 46 = .ok (.getfield 167, 3) := by decide +kernel
theorem dX7_costOf_49 : decode cX7_costOf 49 = .ok (.lreturn, 1) := by decide +kernel
theorem dX7_onHand_0 : decode cX7_onHand 0 = .ok (.iload_n 1, 1) := by decide +kernel
theorem dX7_onHand_1 : decode cX7_onHand 1 = .ok (.iload_n 2, 1) := by decide +kernel
theorem dX7_onHand_2 : decode cX7_onHand 2 = .ok (.invokestatic 44, 3) := by decide +kernel
theorem dX7_onHand_5 : decode cX7_onHand 5 = .ok (.aload_n 0, 1) := by decide +kernel
theorem dX7_onHand_6 : decode cX7_onHand 6 = .ok (.getfield 18, 3) := by decide +kernel
theorem dX7_onHand_9 : decode cX7_onHand 9 = .ok (.iload_n 1, 1) := by decide +kernel
theorem dX7_onHand_10 : decode cX7_onHand 10 = .ok (.iload_n 2, 1) := by decide +kernel
theorem dX7_onHand_11 : decode cX7_onHand 11 = .ok (.invokevirtual 74, 3) := by decide +kernel
theorem dX7_onHand_14 : decode cX7_onHand 14 = .ok (.ireturn, 1) := by decide +kernel
theorem dX7_available_0 : decode cX7_available 0 = .ok (.iload_n 1, 1) := by decide +kernel
theorem dX7_available_1 : decode cX7_available 1 = .ok (.iload_n 2, 1) := by decide +kernel
theorem dX7_available_2 : decode cX7_available 2 = .ok (.invokestatic 44, 3) := by decide +kernel
theorem dX7_available_5 : decode cX7_available 5 = .ok (.aload_n 0, 1) := by decide +kernel
theorem dX7_available_6 : decode cX7_available 6 = .ok (.getfield 18, 3) := by decide +kernel
theorem dX7_available_9 : decode cX7_available 9 = .ok (.iload_n 1, 1) := by decide +kernel
theorem dX7_available_10 : decode cX7_available 10 = .ok (.iload_n 2, 1) := by decide +kernel
theorem dX7_available_11 : decode cX7_available 11 = .ok (.bipush 60, 2) := by decide +kernel
theorem dX7_available_13 : decode cX7_available 13 = .ok (.invokevirtual 67, 3) := by decide +kernel
theorem dX7_available_16 : decode cX7_available 16 = .ok (.sipush 1000, 3) := by decide +kernel
theorem dX7_available_19 : decode cX7_available 19 = .ok (.invokestatic 171, 3) := by decide +kernel
theorem dX7_available_22 : decode cX7_available 22 = .ok (.ireturn, 1) := by decide +kernel
theorem dX7_value_0 : decode cX7_value 0 = .ok (.iload_n 1, 1) := by decide +kernel
theorem dX7_value_1 : decode cX7_value 1 = .ok (.iload_n 2, 1) := by decide +kernel
theorem dX7_value_2 : decode cX7_value 2 = .ok (.invokestatic 44, 3) := by decide +kernel
theorem dX7_value_5 : decode cX7_value 5 = .ok (.aload_n 0, 1) := by decide +kernel
theorem dX7_value_6 : decode cX7_value 6 = .ok (.iload_n 1, 1) := by decide +kernel
theorem dX7_value_7 : decode cX7_value 7 = .ok (.iload_n 2, 1) := by decide +kernel
theorem dX7_value_8 : decode cX7_value 8 = .ok (.iload_n 3, 1) := by decide +kernel
theorem dX7_value_9 : decode cX7_value 9 = .ok (.invokevirtual 163, 3) := by decide +kernel
theorem dX7_value_12 : decode cX7_value 12 = .ok (.invokevirtual 176, 3) := by decide +kernel
theorem dX7_value_15 : decode cX7_value 15 = .ok (.lreturn, 1) := by decide +kernel
theorem dX7_received_0 : decode cX7_received 0 = .ok (.iload_n 1, 1) := by decide +kernel
theorem dX7_received_1 : decode cX7_received 1 = .ok (.iload_n 2, 1) := by decide +kernel
theorem dX7_received_2 : decode cX7_received 2 = .ok (.invokestatic 44, 3) := by decide +kernel
theorem dX7_received_5 : decode cX7_received 5 = .ok (.aload_n 0, 1) := by decide +kernel
theorem dX7_received_6 : decode cX7_received 6 = .ok (.iload_n 1, 1) := by decide +kernel
theorem dX7_received_7 : decode cX7_received 7 = .ok (.iload_n 2, 1) := by decide +kernel
theorem dX7_received_8 : decode cX7_received 8 = .ok (.iconst 1, 1) := by decide +kernel
theorem dX7_received_9 : decode cX7_received 9 = .ok (.invokevirtual 163, 3) := by decide +kernel
theorem dX7_received_12 : decode cX7_received 12 = .ok (.getfield 182, 3) := by decide +kernel
theorem dX7_received_15 : decode cX7_received 15 = .ok (.lreturn, 1) := by decide +kernel
theorem dX7_issued_0 : decode cX7_issued 0 = .ok (.iload_n 1, 1) := by decide +kernel
theorem dX7_issued_1 : decode cX7_issued 1 = .ok (.iload_n 2, 1) := by decide +kernel
theorem dX7_issued_2 : decode cX7_issued 2 = .ok (.invokestatic 44, 3) := by decide +kernel
theorem dX7_issued_5 : decode cX7_issued 5 = .ok (.aload_n 0, 1) := by decide +kernel
theorem dX7_issued_6 : decode cX7_issued 6 = .ok (.iload_n 1, 1) := by decide +kernel
theorem dX7_issued_7 : decode cX7_issued 7 = .ok (.iload_n 2, 1) := by decide +kernel
theorem dX7_issued_8 : decode cX7_issued 8 = .ok (.iload_n 3, 1) := by decide +kernel
theorem dX7_issued_9 : decode cX7_issued 9 = .ok (.invokevirtual 163, 3) := by decide +kernel
theorem dX7_issued_12 : decode cX7_issued 12 = .ok (.getfield 185, 3) := by decide +kernel
theorem dX7_issued_15 : decode cX7_issued 15 = .ok (.lreturn, 1) := by decide +kernel
theorem dX7_revalued_0 : decode cX7_revalued 0 = .ok (.iload_n 1, 1) := by decide +kernel
theorem dX7_revalued_1 : decode cX7_revalued 1 = .ok (.iload_n 2, 1) := by decide +kernel
theorem dX7_revalued_2 : decode cX7_revalued 2 = .ok (.invokestatic 44, 3) := by decide +kernel
theorem dX7_revalued_5 : decode cX7_revalued 5 = .ok (.aload_n 0, 1) := by decide +kernel
theorem dX7_revalued_6 : decode cX7_revalued 6 = .ok (.iload_n 1, 1) := by decide +kernel
theorem dX7_revalued_7 : decode cX7_revalued 7 = .ok (.iload_n 2, 1) := by decide +kernel
theorem dX7_revalued_8 : decode cX7_revalued 8 = .ok (.iload_n 3, 1) := by decide +kernel
theorem dX7_revalued_9 : decode cX7_revalued 9 = .ok (.invokevirtual 163, 3) := by decide +kernel
theorem dX7_revalued_12 : decode cX7_revalued 12 = .ok (.getfield 188, 3) := by decide +kernel
theorem dX7_revalued_15 : decode cX7_revalued 15 = .ok (.lreturn, 1) := by decide +kernel
theorem dX7_expensed_0 : decode cX7_expensed 0 = .ok (.iload_n 1, 1) := by decide +kernel
theorem dX7_expensed_1 : decode cX7_expensed 1 = .ok (.iload_n 2, 1) := by decide +kernel
theorem dX7_expensed_2 : decode cX7_expensed 2 = .ok (.invokestatic 44, 3) := by decide +kernel
theorem dX7_expensed_5 : decode cX7_expensed 5 = .ok (.aload_n 0, 1) := by decide +kernel
theorem dX7_expensed_6 : decode cX7_expensed 6 = .ok (.iload_n 1, 1) := by decide +kernel
theorem dX7_expensed_7 : decode cX7_expensed 7 = .ok (.iload_n 2, 1) := by decide +kernel
theorem dX7_expensed_8 : decode cX7_expensed 8 = .ok (.iload_n 3, 1) := by decide +kernel
theorem dX7_expensed_9 : decode cX7_expensed 9 = .ok (.invokevirtual 163, 3) := by decide +kernel
theorem dX7_expensed_12 : decode cX7_expensed 12 = .ok (.getfield 191, 3) := by decide +kernel
theorem dX7_expensed_15 : decode cX7_expensed 15 = .ok (.lreturn, 1) := by decide +kernel
theorem dX7_layers_0 : decode cX7_layers 0 = .ok (.iload_n 1, 1) := by decide +kernel
theorem dX7_layers_1 : decode cX7_layers 1 = .ok (.iload_n 2, 1) := by decide +kernel
theorem dX7_layers_2 : decode cX7_layers 2 = .ok (.invokestatic 44, 3) := by decide +kernel
theorem dX7_layers_5 : decode cX7_layers 5 = .ok (.aload_n 0, 1) := by decide +kernel
theorem dX7_layers_6 : decode cX7_layers 6 = .ok (.getfield 25, 3) := by decide +kernel
theorem dX7_layers_9 : decode cX7_layers 9 = .ok (.aload_n 0, 1) := by decide +kernel
theorem dX7_layers_10 : decode cX7_layers 10 = .ok (.getfield 18, 3) := by decide +kernel
theorem dX7_layers_13 : decode cX7_layers 13 = .ok (.getfield 194, 3) := by decide +kernel
theorem dX7_layers_16 : decode cX7_layers 16 = .ok (.iload_n 1, 1) := by decide +kernel
theorem dX7_layers_17 : decode cX7_layers 17 = .ok (.iload_n 2, 1) := by decide +kernel
theorem dX7_layers_18 : decode cX7_layers 18 = .ok (.invokevirtual 198, 3) := by decide +kernel
theorem dX7_layers_21 : decode cX7_layers 21 = .ok (.aload_n 0, 1) := by decide +kernel
theorem dX7_layers_22 : decode cX7_layers 22 = .ok (.getfield 25, 3) := by decide +kernel
theorem dX7_layers_25 : decode cX7_layers 25 = .ok (.invokevirtual 202, 3) := by decide +kernel
theorem dX7_layers_28 : decode cX7_layers 28 = .ok (.ireturn, 1) := by decide +kernel
theorem dX7_layerQuantity_0 : decode cX7_layerQuantity 0 = .ok (.aload_n 0, 1) := by decide +kernel
theorem dX7_layerQuantity_1 : decode cX7_layerQuantity 1 = .ok (.iload_n 1, 1) := by decide +kernel
theorem dX7_layerQuantity_2 : decode cX7_layerQuantity 2 = .ok (.iload_n 2, 1) := by decide +kernel
theorem dX7_layerQuantity_3 : decode cX7_layerQuantity 3 = .ok (.iload_n 3, 1) := by decide +kernel
theorem dX7_layerQuantity_4 : decode cX7_layerQuantity 4 = .ok (.invokevirtual 206, 3) := by decide +kernel
theorem dX7_layerQuantity_7 : decode cX7_layerQuantity 7 = .ok (.getfield 210, 3) := by decide +kernel
theorem dX7_layerQuantity_10 : decode cX7_layerQuantity 10 = .ok (.ireturn, 1) := by decide +kernel
theorem dX7_layerCost_0 : decode cX7_layerCost 0 = .ok (.aload_n 0, 1) := by decide +kernel
theorem dX7_layerCost_1 : decode cX7_layerCost 1 = .ok (.iload_n 1, 1) := by decide +kernel
theorem dX7_layerCost_2 : decode cX7_layerCost 2 = .ok (.iload_n 2, 1) := by decide +kernel
theorem dX7_layerCost_3 : decode cX7_layerCost 3 = .ok (.iload_n 3, 1) := by decide +kernel
theorem dX7_layerCost_4 : decode cX7_layerCost 4 = .ok (.invokevirtual 206, 3) := by decide +kernel
theorem dX7_layerCost_7 : decode cX7_layerCost 7 = .ok (.getfield 214, 3) := by decide +kernel
theorem dX7_layerCost_10 : decode cX7_layerCost 10 = .ok (.lreturn, 1) := by decide +kernel
theorem dX7_layerOrigin_0 : decode cX7_layerOrigin 0 = .ok (.aload_n 0, 1) := by decide +kernel
theorem dX7_layerOrigin_1 : decode cX7_layerOrigin 1 = .ok (.iload_n 1, 1) := by decide +kernel
theorem dX7_layerOrigin_2 : decode cX7_layerOrigin 2 = .ok (.iload_n 2, 1) := by decide +kernel
theorem dX7_layerOrigin_3 : decode cX7_layerOrigin 3 = .ok (.iload_n 3, 1) := by decide +kernel
theorem dX7_layerOrigin_4 : decode cX7_layerOrigin 4 = .ok (.invokevirtual 206, 3) := by decide +kernel
theorem dX7_layerOrigin_7 : decode cX7_layerOrigin 7 = .ok (.getfield 217, 3) := by decide +kernel
theorem dX7_layerOrigin_10 : decode cX7_layerOrigin 10 = .ok (.ireturn, 1) := by decide +kernel
theorem dX7_checkRange_0 : decode cX7_checkRange 0 = .ok (.iload_n 0, 1) := by decide +kernel
theorem dX7_checkRange_1 : decode cX7_checkRange 1 = .ok (.iload_n 1, 1) := by decide +kernel
theorem dX7_checkRange_2 : decode cX7_checkRange 2 = .ok (.if_icmp .lt 8, 3) := by decide +kernel
theorem dX7_checkRange_5 : decode cX7_checkRange 5 = .ok (.iload_n 0, 1) := by decide +kernel
theorem dX7_checkRange_6 : decode cX7_checkRange 6 = .ok (.iload_n 2, 1) := by decide +kernel
theorem dX7_checkRange_7 : decode cX7_checkRange 7 = .ok (.if_icmp .le 13, 3) := by decide +kernel
theorem dX7_checkRange_10 : decode cX7_checkRange 10 = .ok (.new 78, 3) := by decide +kernel
theorem dX7_checkRange_13 : decode cX7_checkRange 13 = .ok (.dup, 1) := by decide +kernel
theorem dX7_checkRange_14 : decode cX7_checkRange 14 = .ok (.ldc 220, 2) := by decide +kernel
theorem dX7_checkRange_16 : decode cX7_checkRange 16 = .ok (.invokespecial 82, 3) := by decide +kernel
theorem dX7_checkRange_19 : decode cX7_checkRange 19 = .ok (.athrow, 1) := by decide +kernel
theorem dX7_checkRange_20 : decode cX7_checkRange 20 = .ok (.return_, 1) := by decide +kernel
theorem dX7_checkItemAndDay_0 : decode cX7_checkItemAndDay 0 = .ok (.iload_n 0, 1) := by decide +kernel
theorem dX7_checkItemAndDay_1 : decode cX7_checkItemAndDay 1 = .ok (.iconst 0, 1) := by decide +kernel
theorem dX7_checkItemAndDay_2 : decode cX7_checkItemAndDay 2 = .ok (.iconst 5, 1) := by decide +kernel
theorem dX7_checkItemAndDay_3 : decode cX7_checkItemAndDay 3 = .ok (.invokestatic 48, 3) := by decide +kernel
theorem dX7_checkItemAndDay_6 : decode cX7_checkItemAndDay 6 = .ok (.iload_n 1, 1) := by decide +kernel
theorem dX7_checkItemAndDay_7 : decode cX7_checkItemAndDay 7 = .ok (.iconst 0, 1) := by decide +kernel
theorem dX7_checkItemAndDay_8 : decode cX7_checkItemAndDay 8 = .ok (.sipush 364, 3) := by decide +kernel
theorem dX7_checkItemAndDay_11 : decode cX7_checkItemAndDay 11 = .ok (.invokestatic 48, 3) := by decide +kernel
theorem dX7_checkItemAndDay_14 : decode cX7_checkItemAndDay 14 = .ok (.return_, 1) := by decide +kernel
theorem dX7_checkOpen_0 : decode cX7_checkOpen 0 = .ok (.iload_n 1, 1) := by decide +kernel
theorem dX7_checkOpen_1 : decode cX7_checkOpen 1 = .ok (.aload_n 0, 1) := by decide +kernel
theorem dX7_checkOpen_2 : decode cX7_checkOpen 2 = .ok (.getfield 40, 3) := by decide +kernel
theorem dX7_checkOpen_5 : decode cX7_checkOpen 5 = .ok (.if_icmp .gt 13, 3) := by decide +kernel
theorem dX7_checkOpen_8 : decode cX7_checkOpen 8 = .ok (.new 98, 3) := by decide +kernel
theorem dX7_checkOpen_11 : decode cX7_checkOpen 11 = .ok (.dup, 1) := by decide +kernel
theorem dX7_checkOpen_12 : decode cX7_checkOpen 12 = .ok (.ldc 222, 2) := by decide +kernel
theorem dX7_checkOpen_14 : decode cX7_checkOpen 14 = .ok (.invokespecial 102, 3) := by decide +kernel
theorem dX7_checkOpen_17 : decode cX7_checkOpen 17 = .ok (.athrow, 1) := by decide +kernel
theorem dX7_checkOpen_18 : decode cX7_checkOpen 18 = .ok (.return_, 1) := by decide +kernel
theorem dX7_checkPosting_0 : decode cX7_checkPosting 0 = .ok (.aload_n 0, 1) := by decide +kernel
theorem dX7_checkPosting_1 : decode cX7_checkPosting 1 = .ok (.iload_n 1, 1) := by decide +kernel
theorem dX7_checkPosting_2 : decode cX7_checkPosting 2 = .ok (.invokevirtual 124, 3) := by decide +kernel
theorem dX7_checkPosting_5 : decode cX7_checkPosting 5 = .ok (.aload_n 0, 1) := by decide +kernel
theorem dX7_checkPosting_6 : decode cX7_checkPosting 6 = .ok (.getfield 57, 3) := by decide +kernel
theorem dX7_checkPosting_9 : decode cX7_checkPosting 9 = .ok (.bipush 60, 2) := by decide +kernel
theorem dX7_checkPosting_11 : decode cX7_checkPosting 11 = .ok (.if_icmp .lt 13, 3) := by decide +kernel
theorem dX7_checkPosting_14 : decode cX7_checkPosting 14 = .ok (.new 98, 3) := by decide +kernel
theorem dX7_checkPosting_17 : decode cX7_checkPosting 17 = .ok (.dup, 1) := by decide +kernel
theorem dX7_checkPosting_18 : decode cX7_checkPosting 18 = .ok (.ldc 224, 2) := by decide +kernel
theorem dX7_checkPosting_20 : decode cX7_checkPosting 20 = .ok (.invokespecial 102, 3) := by decide +kernel
theorem dX7_checkPosting_23 : decode cX7_checkPosting 23 = .ok (.athrow, 1) := by decide +kernel
theorem dX7_checkPosting_24 : decode cX7_checkPosting 24 = .ok (.return_, 1) := by decide +kernel
theorem dX7_checkOnHand_0 : decode cX7_checkOnHand 0 = .ok (.iload_n 0, 1) := by decide +kernel
theorem dX7_checkOnHand_1 : decode cX7_checkOnHand 1 = .ok (.iload_n 1, 1) := by decide +kernel
theorem dX7_checkOnHand_2 : decode cX7_checkOnHand 2 = .ok (.if_icmp .le 13, 3) := by decide +kernel
theorem dX7_checkOnHand_5 : decode cX7_checkOnHand 5 = .ok (.new 98, 3) := by decide +kernel
theorem dX7_checkOnHand_8 : decode cX7_checkOnHand 8 = .ok (.dup, 1) := by decide +kernel
theorem dX7_checkOnHand_9 : decode cX7_checkOnHand 9 = .ok (.ldc 226, 2) := by decide +kernel
theorem dX7_checkOnHand_11 : decode cX7_checkOnHand 11 = .ok (.invokespecial 102, 3) := by decide +kernel
theorem dX7_checkOnHand_14 : decode cX7_checkOnHand 14 = .ok (.athrow, 1) := by decide +kernel
theorem dX7_checkOnHand_15 : decode cX7_checkOnHand 15 = .ok (.return_, 1) := by decide +kernel
theorem dX7_checkReceipts_0 : decode cX7_checkReceipts 0 = .ok (.iconst 0, 1) := by decide +kernel
theorem dX7_checkReceipts_1 : decode cX7_checkReceipts 1 = .ok (.istore 4, 2) := by decide +kernel
theorem dX7_checkReceipts_3 : decode cX7_checkReceipts 3 = .ok (.iload 4, 2) := by decide +kernel
theorem dX7_checkReceipts_5 : decode cX7_checkReceipts 5 = .ok (.bipush 60, 2) := by decide +kernel
theorem dX7_checkReceipts_7 : decode cX7_checkReceipts 7 = .ok (.if_icmp .ge 58, 3) := by decide +kernel
theorem dX7_checkReceipts_10 : decode cX7_checkReceipts 10 = .ok (.aload_n 0, 1) := by decide +kernel
theorem dX7_checkReceipts_11 : decode cX7_checkReceipts 11 = .ok (.lload_n 1, 1) := by decide +kernel
theorem dX7_checkReceipts_12 : decode cX7_checkReceipts 12 = .ok (.iload 4, 2) := by decide +kernel
theorem dX7_checkReceipts_14 : decode cX7_checkReceipts 14 = .ok (.invokevirtual 228, 3) := by decide +kernel
theorem dX7_checkReceipts_17 : decode cX7_checkReceipts 17 = .ok (.astore 5, 2) := by decide +kernel
theorem dX7_checkReceipts_19 : decode cX7_checkReceipts 19 = .ok (.aload 5, 2) := by decide +kernel
theorem dX7_checkReceipts_21 : decode cX7_checkReceipts 21 = .ok (.ifnull 38, 3) := by decide +kernel
theorem dX7_checkReceipts_24 : decode cX7_checkReceipts 24 = .ok (.aload 5, 2) := by decide +kernel
theorem dX7_checkReceipts_26 : decode cX7_checkReceipts 26 = .ok (.getfield 127, 3) := by decide +kernel
theorem dX7_checkReceipts_29 : decode cX7_checkReceipts 29 = .ok (.ifCond .ne 20, 3) := by decide +kernel
theorem dX7_checkReceipts_32 : decode cX7_checkReceipts 32 = .ok (.aload 5, 2) := by decide +kernel
theorem dX7_checkReceipts_34 : decode cX7_checkReceipts 34 = .ok (.getfield 115, 3) := by decide +kernel
theorem dX7_checkReceipts_37 : decode cX7_checkReceipts 37 = .ok (.ifCond .ne 12, 3) := by decide +kernel
theorem dX7_checkReceipts_40 : decode cX7_checkReceipts 40 = .ok (.aload 5, 2) := by decide +kernel
theorem dX7_checkReceipts_42 : decode cX7_checkReceipts 42 = .ok (.getfield 121, 3) := by decide +kernel
theorem dX7_checkReceipts_45 : decode cX7_checkReceipts 45 = .ok (.iload_n 3, 1) := by decide +kernel
theorem dX7_checkReceipts_46 : decode cX7_checkReceipts 46 = .ok (.if_icmp .le 13, 3) := by decide +kernel
theorem dX7_checkReceipts_49 : decode cX7_checkReceipts 49 = .ok (.new 98, 3) := by decide +kernel
theorem dX7_checkReceipts_52 : decode cX7_checkReceipts 52 = .ok (.dup, 1) := by decide +kernel
theorem dX7_checkReceipts_53 : decode cX7_checkReceipts 53 = .ok (.ldc 232, 2) := by decide +kernel
theorem dX7_checkReceipts_55 : decode cX7_checkReceipts 55 = .ok (.invokespecial 102, 3) := by decide +kernel
theorem dX7_checkReceipts_58 : decode cX7_checkReceipts 58 = .ok (.athrow, 1) := by decide +kernel
theorem dX7_checkReceipts_59 : decode cX7_checkReceipts 59 = .ok (.iinc 4 1, 3) := by decide +kernel
theorem dX7_checkReceipts_62 : decode cX7_checkReceipts 62 = .ok (.goto (-59), 3) := by decide +kernel
theorem dX7_checkReceipts_65 : decode cX7_checkReceipts 65 = .ok (.return_, 1) := by decide +kernel
theorem dX7_checkDispensable_0 : decode cX7_checkDispensable 0 = .ok (.aload_n 0, 1) := by decide +kernel
theorem dX7_checkDispensable_1 : decode cX7_checkDispensable 1 = .ok (.getfield 18, 3) := by decide +kernel
theorem dX7_checkDispensable_4 : decode cX7_checkDispensable 4 = .ok (.aload_n 1, 1) := by decide +kernel
theorem dX7_checkDispensable_5 : decode cX7_checkDispensable 5 = .ok (.invokevirtual 234, 3) := by decide +kernel
theorem dX7_checkDispensable_8 : decode cX7_checkDispensable 8 = .ok (.ifCond .eq 13, 3) := by decide +kernel
theorem dX7_checkDispensable_11 : decode cX7_checkDispensable 11 = .ok (.new 98, 3) := by decide +kernel
theorem dX7_checkDispensable_14 : decode cX7_checkDispensable 14 = .ok (.dup, 1) := by decide +kernel
theorem dX7_checkDispensable_15 : decode cX7_checkDispensable 15 = .ok (.ldc 238, 2) := by decide +kernel
theorem dX7_checkDispensable_17 : decode cX7_checkDispensable 17 = .ok (.invokespecial 102, 3) := by decide +kernel
theorem dX7_checkDispensable_20 : decode cX7_checkDispensable 20 = .ok (.athrow, 1) := by decide +kernel
theorem dX7_checkDispensable_21 : decode cX7_checkDispensable 21 = .ok (.aload_n 1, 1) := by decide +kernel
theorem dX7_checkDispensable_22 : decode cX7_checkDispensable 22 = .ok (.getfield 240, 3) := by decide +kernel
theorem dX7_checkDispensable_25 : decode cX7_checkDispensable 25 = .ok (.aload_n 0, 1) := by decide +kernel
theorem dX7_checkDispensable_26 : decode cX7_checkDispensable 26 = .ok (.getfield 18, 3) := by decide +kernel
theorem dX7_checkDispensable_29 : decode cX7_checkDispensable 29 = .ok (.aload_n 1, 1) := by decide +kernel
theorem dX7_checkDispensable_30 : decode cX7_checkDispensable 30 = .ok (.getfield 160, 3) := by decide +kernel
theorem dX7_checkDispensable_33 : decode cX7_checkDispensable 33 = .ok (.aload_n 1, 1) := by decide +kernel
theorem dX7_checkDispensable_34 : decode cX7_checkDispensable 34 = .ok (.getfield 121, 3) := by decide +kernel
theorem dX7_checkDispensable_37 : decode cX7_checkDispensable 37 = .ok (.aload_n 1, 1) := by decide +kernel
theorem dX7_checkDispensable_38 : decode cX7_checkDispensable 38 = .ok (.getfield 243, 3) := by decide +kernel
theorem dX7_checkDispensable_41 : decode cX7_checkDispensable 41 = .ok (.invokevirtual 67, 3) := by decide +kernel
theorem dX7_checkDispensable_44 : decode cX7_checkDispensable 44 = .ok (.invokestatic 71, 3) := by decide +kernel
theorem dX7_checkDispensable_47 : decode cX7_checkDispensable 47 = .ok (.return_, 1) := by decide +kernel
theorem dX7_find_0 : decode cX7_find 0 = .ok (.iload_n 1, 1) := by decide +kernel
theorem dX7_find_1 : decode cX7_find 1 = .ok (.ifCond .lt 21, 3) := by decide +kernel
theorem dX7_find_4 : decode cX7_find 4 = .ok (.iload_n 1, 1) := by decide +kernel
theorem dX7_find_5 : decode cX7_find 5 = .ok (.aload_n 0, 1) := by decide +kernel
theorem dX7_find_6 : decode cX7_find 6 = .ok (.getfield 11, 3) := by decide +kernel
theorem dX7_find_9 : decode cX7_find 9 = .ok (.arraylength, 1) := by decide +kernel
theorem dX7_find_10 : decode cX7_find 10 = .ok (.if_icmp .ge 12, 3) := by decide +kernel
theorem dX7_find_13 : decode cX7_find 13 = .ok (.aload_n 0, 1) := by decide +kernel
theorem dX7_find_14 : decode cX7_find 14 = .ok (.getfield 11, 3) := by decide +kernel
theorem dX7_find_17 : decode cX7_find 17 = .ok (.iload_n 1, 1) := by decide +kernel
theorem dX7_find_18 : decode cX7_find 18 = .ok (.aaload, 1) := by decide +kernel
theorem dX7_find_19 : decode cX7_find 19 = .ok (.goto 4, 3) := by decide +kernel
theorem dX7_find_22 : decode cX7_find 22 = .ok (.aconst_null, 1) := by decide +kernel
theorem dX7_find_23 : decode cX7_find 23 = .ok (.astore_n 2, 1) := by decide +kernel
theorem dX7_find_24 : decode cX7_find 24 = .ok (.aload_n 2, 1) := by decide +kernel
theorem dX7_find_25 : decode cX7_find 25 = .ok (.ifnonnull 13, 3) := by decide +kernel
theorem dX7_find_28 : decode cX7_find 28 = .ok (.new 85, 3) := by decide +kernel
theorem dX7_find_31 : decode cX7_find 31 = .ok (.dup, 1) := by decide +kernel
theorem dX7_find_32 : decode cX7_find 32 = .ok (.ldc 246, 2) := by decide +kernel
theorem dX7_find_34 : decode cX7_find 34 = .ok (.invokespecial 89, 3) := by decide +kernel
theorem dX7_find_37 : decode cX7_find 37 = .ok (.athrow, 1) := by decide +kernel
theorem dX7_find_38 : decode cX7_find 38 = .ok (.aload_n 2, 1) := by decide +kernel
theorem dX7_find_39 : decode cX7_find 39 = .ok (.areturn, 1) := by decide +kernel
theorem dX7_findLayer_0 : decode cX7_findLayer 0 = .ok (.iload_n 1, 1) := by decide +kernel
theorem dX7_findLayer_1 : decode cX7_findLayer 1 = .ok (.iload_n 2, 1) := by decide +kernel
theorem dX7_findLayer_2 : decode cX7_findLayer 2 = .ok (.invokestatic 44, 3) := by decide +kernel
theorem dX7_findLayer_5 : decode cX7_findLayer 5 = .ok (.aload_n 0, 1) := by decide +kernel
theorem dX7_findLayer_6 : decode cX7_findLayer 6 = .ok (.getfield 25, 3) := by decide +kernel
theorem dX7_findLayer_9 : decode cX7_findLayer 9 = .ok (.aload_n 0, 1) := by decide +kernel
theorem dX7_findLayer_10 : decode cX7_findLayer 10 = .ok (.getfield 18, 3) := by decide +kernel
theorem dX7_findLayer_13 : decode cX7_findLayer 13 = .ok (.getfield 194, 3) := by decide +kernel
theorem dX7_findLayer_16 : decode cX7_findLayer 16 = .ok (.iload_n 1, 1) := by decide +kernel
theorem dX7_findLayer_17 : decode cX7_findLayer 17 = .ok (.iload_n 2, 1) := by decide +kernel
theorem dX7_findLayer_18 : decode cX7_findLayer 18 = .ok (.invokevirtual 198, 3) := by decide +kernel
theorem dX7_findLayer_21 : decode cX7_findLayer 21 = .ok (.aload_n 0, 1) := by decide +kernel
theorem dX7_findLayer_22 : decode cX7_findLayer 22 = .ok (.getfield 25, 3) := by decide +kernel
theorem dX7_findLayer_25 : decode cX7_findLayer 25 = .ok (.iload_n 3, 1) := by decide +kernel
theorem dX7_findLayer_26 : decode cX7_findLayer 26 = .ok (.invokevirtual 248, 3) := by decide +kernel
theorem dX7_findLayer_29 : decode cX7_findLayer 29 = .ok (.astore 4, 2) := by decide +kernel
theorem dX7_findLayer_31 : decode cX7_findLayer 31 = .ok (.aload 4, 2) := by decide +kernel
theorem dX7_findLayer_33 : decode cX7_findLayer 33 = .ok (.ifnonnull 13, 3) := by decide +kernel
theorem dX7_findLayer_36 : decode cX7_findLayer 36 = .ok (.new 85, 3) := by decide +kernel
theorem dX7_findLayer_39 : decode cX7_findLayer 39 = .ok (.dup, 1) := by decide +kernel
theorem dX7_findLayer_40 : decode cX7_findLayer 40 = .ok (.ldc 252, 2) := by decide +kernel
theorem dX7_findLayer_42 : decode cX7_findLayer 42 = .ok (.invokespecial 89, 3) := by decide +kernel
theorem dX7_findLayer_45 : decode cX7_findLayer 45 = .ok (.athrow, 1) := by decide +kernel
theorem dX7_findLayer_46 : decode cX7_findLayer 46 = .ok (.aload 4, 2) := by decide +kernel
theorem dX7_findLayer_48 : decode cX7_findLayer 48 = .ok (.areturn, 1) := by decide +kernel
theorem dX7_post_0 : decode cX7_post 0 = .ok (.aload_n 0, 1) := by decide +kernel
theorem dX7_post_1 : decode cX7_post 1 = .ok (.getfield 57, 3) := by decide +kernel
theorem dX7_post_4 : decode cX7_post 4 = .ok (.ifCond .lt 43, 3) := by decide +kernel
theorem dX7_post_7 : decode cX7_post 7 = .ok (.aload_n 0, 1) := by decide +kernel
theorem dX7_post_8 : decode cX7_post 8 = .ok (.getfield 57, 3) := by decide +kernel
theorem dX7_post_11 : decode cX7_post 11 = .ok (.aload_n 0, 1) := by decide +kernel
theorem dX7_post_12 : decode cX7_post 12 = .ok (.getfield 11, 3) := by decide +kernel
theorem dX7_post_15 : decode cX7_post 15 = .ok (.arraylength, 1) := by decide +kernel
theorem dX7_post_16 : decode cX7_post 16 = .ok (.if_icmp .ge 31, 3) := by decide +kernel
theorem dX7_post_19 : decode cX7_post 19 = .ok (.aload_n 0, 1) := by decide +kernel
theorem dX7_post_20 : decode cX7_post 20 = .ok (.getfield 11, 3) := by decide +kernel
theorem dX7_post_23 : decode cX7_post 23 = .ok (.aload_n 0, 1) := by decide +kernel
theorem dX7_post_24 : decode cX7_post 24 = .ok (.getfield 57, 3) := by decide +kernel
theorem dX7_post_27 : decode cX7_post 27 = .ok (.aload_n 1, 1) := by decide +kernel
theorem dX7_post_28 : decode cX7_post 28 = .ok (.aastore, 1) := by decide +kernel
theorem dX7_post_29 : decode cX7_post 29 = .ok (.aload_n 0, 1) := by decide +kernel
theorem dX7_post_30 : decode cX7_post 30 = .ok (.dup, 1) := by decide +kernel
theorem dX7_post_31 : decode cX7_post 31 = .ok (.getfield 57, 3) := by decide +kernel
theorem dX7_post_34 : decode cX7_post 34 = .ok (.iconst 1, 1) := by decide +kernel
theorem dX7_post_35 : decode cX7_post 35 = .ok (.iadd, 1) := by decide +kernel
theorem dX7_post_36 : decode cX7_post 36 = .ok (.putfield 57, 3) := by decide +kernel
theorem dX7_post_39 : decode cX7_post 39 = .ok (.aload_n 0, 1) := by decide +kernel
theorem dX7_post_40 : decode cX7_post 40 = .ok (.getfield 18, 3) := by decide +kernel
theorem dX7_post_43 : decode cX7_post 43 = .ok (.aload_n 1, 1) := by decide +kernel
theorem dX7_post_44 : decode cX7_post 44 = .ok (.invokevirtual 254, 3) := by decide +kernel
theorem dX7_post_47 : decode cX7_post 47 = .ok (.aload_n 1, 1) := by decide +kernel
theorem dX7_post_48 : decode cX7_post 48 = .ok (.getfield 243, 3) := by decide +kernel
theorem dX7_post_51 : decode cX7_post 51 = .ok (.ireturn, 1) := by decide +kernel
theorem dX7_replayed_0 : decode cX7_replayed 0 = .ok (.iload_n 3, 1) := by decide +kernel
theorem dX7_replayed_1 : decode cX7_replayed 1 = .ok (.ifCond .eq 10, 3) := by decide +kernel
theorem dX7_replayed_4 : decode cX7_replayed 4 = .ok (.aload_n 0, 1) := by decide +kernel
theorem dX7_replayed_5 : decode cX7_replayed 5 = .ok (.getfield 32, 3) := by decide +kernel
theorem dX7_replayed_8 : decode cX7_replayed 8 = .ok (.goto 7, 3) := by decide +kernel
theorem dX7_replayed_11 : decode cX7_replayed 11 = .ok (.aload_n 0, 1) := by decide +kernel
theorem dX7_replayed_12 : decode cX7_replayed 12 = .ok (.getfield 25, 3) := by decide +kernel
theorem dX7_replayed_15 : decode cX7_replayed 15 = .ok (.astore 4, 2) := by decide +kernel
theorem dX7_replayed_17 : decode cX7_replayed 17 = .ok (.aload 4, 2) := by decide +kernel
theorem dX7_replayed_19 : decode cX7_replayed 19 = .ok (.aload_n 0, 1) := by decide +kernel
theorem dX7_replayed_20 : decode cX7_replayed 20 = .ok (.getfield 18, 3) := by decide +kernel
theorem dX7_replayed_23 : decode cX7_replayed 23 = .ok (.getfield 194, 3) := by decide +kernel
theorem dX7_replayed_26 : decode cX7_replayed 26 = .ok (.iload_n 1, 1) := by decide +kernel
theorem dX7_replayed_27 : decode cX7_replayed 27 = .ok (.iload_n 2, 1) := by decide +kernel
theorem dX7_replayed_28 : decode cX7_replayed 28 = .ok (.invokevirtual 257, 3) := by decide +kernel
theorem dX7_replayed_31 : decode cX7_replayed 31 = .ok (.aload 4, 2) := by decide +kernel
theorem dX7_replayed_33 : decode cX7_replayed 33 = .ok (.areturn, 1) := by decide +kernel
theorem dX7_weightOf_0 : decode cX7_weightOf 0 = .ok (.iload_n 1, 1) := by decide +kernel
theorem dX7_weightOf_1 : decode cX7_weightOf 1 = .ok (.ifCond .lt 21, 3) := by decide +kernel
theorem dX7_weightOf_4 : decode cX7_weightOf 4 = .ok (.iload_n 1, 1) := by decide +kernel
theorem dX7_weightOf_5 : decode cX7_weightOf 5 = .ok (.aload_n 0, 1) := by decide +kernel
theorem dX7_weightOf_6 : decode cX7_weightOf 6 = .ok (.getfield 36, 3) := by decide +kernel
theorem dX7_weightOf_9 : decode cX7_weightOf 9 = .ok (.arraylength, 1) := by decide +kernel
theorem dX7_weightOf_10 : decode cX7_weightOf 10 = .ok (.if_icmp .ge 12, 3) := by decide +kernel
theorem dX7_weightOf_13 : decode cX7_weightOf 13 = .ok (.aload_n 0, 1) := by decide +kernel
theorem dX7_weightOf_14 : decode cX7_weightOf 14 = .ok (.getfield 36, 3) := by decide +kernel
theorem dX7_weightOf_17 : decode cX7_weightOf 17 = .ok (.iload_n 1, 1) := by decide +kernel
theorem dX7_weightOf_18 : decode cX7_weightOf 18 = .ok (.iaload, 1) := by decide +kernel
theorem dX7_weightOf_19 : decode cX7_weightOf 19 = .ok (.goto 4, 3) := by decide +kernel
theorem dX7_weightOf_22 : decode cX7_weightOf 22 = .ok (.iconst 0, 1) := by decide +kernel
theorem dX7_weightOf_23 : decode cX7_weightOf 23 = .ok (.ireturn, 1) := by decide +kernel
theorem dX7_chosen_0 : decode cX7_chosen 0 = .ok (.iload_n 3, 1) := by decide +kernel
theorem dX7_chosen_1 : decode cX7_chosen 1 = .ok (.ifCond .lt 26, 3) := by decide +kernel
theorem dX7_chosen_4 : decode cX7_chosen 4 = .ok (.iload_n 3, 1) := by decide +kernel
theorem dX7_chosen_5 : decode cX7_chosen 5 = .ok (.aload_n 0, 1) := by decide +kernel
theorem dX7_chosen_6 : decode cX7_chosen 6 = .ok (.getfield 11, 3) := by decide +kernel
theorem dX7_chosen_9 : decode cX7_chosen 9 = .ok (.arraylength, 1) := by decide +kernel
theorem dX7_chosen_10 : decode cX7_chosen 10 = .ok (.if_icmp .ge 17, 3) := by decide +kernel
theorem dX7_chosen_13 : decode cX7_chosen 13 = .ok (.lload_n 1, 1) := by decide +kernel
theorem dX7_chosen_14 : decode cX7_chosen 14 = .ok (.iload_n 3, 1) := by decide +kernel
theorem dX7_chosen_15 : decode cX7_chosen 15 = .ok (.lushr, 1) := by decide +kernel
theorem dX7_chosen_16 : decode cX7_chosen 16 = .ok (.lconst 1, 1) := by decide +kernel
theorem dX7_chosen_17 : decode cX7_chosen 17 = .ok (.land, 1) := by decide +kernel
theorem dX7_chosen_18 : decode cX7_chosen 18 = .ok (.lconst 1, 1) := by decide +kernel
theorem dX7_chosen_19 : decode cX7_chosen 19 = .ok (.lcmp, 1) := by decide +kernel
theorem dX7_chosen_20 : decode cX7_chosen 20 = .ok (.ifCond .ne 7, 3) := by decide +kernel
theorem dX7_chosen_23 : decode cX7_chosen 23 = .ok (.iconst 1, 1) := by decide +kernel
theorem dX7_chosen_24 : decode cX7_chosen 24 = .ok (.goto 4, 3) := by decide +kernel
theorem dX7_chosen_27 : decode cX7_chosen 27 = .ok (.iconst 0, 1) := by decide +kernel
theorem dX7_chosen_28 : decode cX7_chosen 28 = .ok (.istore 4, 2) := by decide +kernel
theorem dX7_chosen_30 : decode cX7_chosen 30 = .ok (.iload 4, 2) := by decide +kernel
theorem dX7_chosen_32 : decode cX7_chosen 32 = .ok (.ifCond .eq 12, 3) := by decide +kernel
theorem dX7_chosen_35 : decode cX7_chosen 35 = .ok (.aload_n 0, 1) := by decide +kernel
theorem dX7_chosen_36 : decode cX7_chosen 36 = .ok (.getfield 11, 3) := by decide +kernel
theorem dX7_chosen_39 : decode cX7_chosen 39 = .ok (.iload_n 3, 1) := by decide +kernel
theorem dX7_chosen_40 : decode cX7_chosen 40 = .ok (.aaload, 1) := by decide +kernel
theorem dX7_chosen_41 : decode cX7_chosen 41 = .ok (.goto 4, 3) := by decide +kernel
theorem dX7_chosen_44 : decode cX7_chosen 44 = .ok (.aconst_null, 1) := by decide +kernel
theorem dX7_chosen_45 : decode cX7_chosen 45 = .ok (.areturn, 1) := by decide +kernel
theorem dX7_basisOf_0 : decode cX7_basisOf 0 = .ok (.iload_n 2, 1) := by decide +kernel
theorem dX7_basisOf_1 : decode cX7_basisOf 1 = .ok (.iconst 1, 1) := by decide +kernel
theorem dX7_basisOf_2 : decode cX7_basisOf 2 = .ok (.if_icmp .ne 9, 3) := by decide +kernel
theorem dX7_basisOf_5 : decode cX7_basisOf 5 = .ok (.aload_n 1, 1) := by decide +kernel
theorem dX7_basisOf_6 : decode cX7_basisOf 6 = .ok (.getfield 258, 3) := by decide +kernel
theorem dX7_basisOf_9 : decode cX7_basisOf 9 = .ok (.i2l, 1) := by decide +kernel
theorem dX7_basisOf_10 : decode cX7_basisOf 10 = .ok (.lreturn, 1) := by decide +kernel
theorem dX7_basisOf_11 : decode cX7_basisOf 11 = .ok (.iload_n 2, 1) := by decide +kernel
theorem dX7_basisOf_12 : decode cX7_basisOf 12 = .ok (.iconst 2, 1) := by decide +kernel
theorem dX7_basisOf_13 : decode cX7_basisOf 13 = .ok (.if_icmp .ne 20, 3) := by decide +kernel
theorem dX7_basisOf_16 : decode cX7_basisOf 16 = .ok (.aload_n 1, 1) := by decide +kernel
theorem dX7_basisOf_17 : decode cX7_basisOf 17 = .ok (.getfield 240, 3) := by decide +kernel
theorem dX7_basisOf_20 : decode cX7_basisOf 20 = .ok (.aload_n 0, 1) := by decide +kernel
theorem dX7_basisOf_21 : decode cX7_basisOf 21 = .ok (.aload_n 1, 1) := by decide +kernel
theorem dX7_basisOf_22 : decode cX7_basisOf 22 = .ok (.getfield 160, 3) := by decide +kernel
theorem dX7_basisOf_25 : decode cX7_basisOf 25 = .ok (.invokevirtual 140, 3) := by decide +kernel
theorem dX7_basisOf_28 : decode cX7_basisOf 28 = .ok (.imul, 1) := by decide +kernel
theorem dX7_basisOf_29 : decode cX7_basisOf 29 = .ok (.i2l, 1) := by decide +kernel
theorem dX7_basisOf_30 : decode cX7_basisOf 30 = .ok (.goto 8, 3) := by decide +kernel
theorem dX7_basisOf_33 : decode cX7_basisOf 33 = .ok (.aload_n 1, 1) := by decide +kernel
theorem dX7_basisOf_34 : decode cX7_basisOf 34 = .ok (.getfield 240, 3) := by decide +kernel
theorem dX7_basisOf_37 : decode cX7_basisOf 37 = .ok (.i2l, 1) := by decide +kernel
theorem dX7_basisOf_38 : decode cX7_basisOf 38 = .ok (.lreturn, 1) := by decide +kernel
theorem dX7_sumOfBasis_0 : decode cX7_sumOfBasis 0 = .ok (.lconst 0, 1) := by decide +kernel
theorem dX7_sumOfBasis_1 : decode cX7_sumOfBasis 1 = .ok (.lstore 4, 2) := by decide +kernel
theorem dX7_sumOfBasis_3 : decode cX7_sumOfBasis 3 = .ok (.iconst 0, 1) := by decide +kernel
theorem dX7_sumOfBasis_4 : decode cX7_sumOfBasis 4 = .ok (.istore 6, 2) := by decide +kernel
theorem dX7_sumOfBasis_6 : decode cX7_sumOfBasis 6 = .ok (.iload 6, 2) := by decide +kernel
theorem dX7_sumOfBasis_8 : decode cX7_sumOfBasis 8 = .ok (.bipush 60, 2) := by decide +kernel
theorem dX7_sumOfBasis_10 : decode cX7_sumOfBasis 10 = .ok (.if_icmp .ge 35, 3) := by decide +kernel
theorem dX7_sumOfBasis_13 : decode cX7_sumOfBasis 13 = .ok (.aload_n 0, 1) := by decide +kernel
theorem dX7_sumOfBasis_14 : decode cX7_sumOfBasis 14 = .ok (.lload_n 1, 1) := by decide +kernel
theorem dX7_sumOfBasis_15 : decode cX7_sumOfBasis 15 = .ok (.iload 6, 2) := by decide +kernel
theorem dX7_sumOfBasis_17 : decode cX7_sumOfBasis 17 = .ok (.invokevirtual 228, 3) := by decide +kernel
theorem dX7_sumOfBasis_20 : decode cX7_sumOfBasis 20 = .ok (.astore 7, 2) := by decide +kernel
theorem dX7_sumOfBasis_22 : decode cX7_sumOfBasis 22 = .ok (.aload 7, 2) := by decide +kernel
theorem dX7_sumOfBasis_24 : decode cX7_sumOfBasis 24 = .ok (.ifnull 15, 3) := by decide +kernel
theorem dX7_sumOfBasis_27 : decode cX7_sumOfBasis 27 = .ok (.lload 4, 2) := by decide +kernel
theorem dX7_sumOfBasis_29 : decode cX7_sumOfBasis 29 = .ok (.aload_n 0, 1) := by decide +kernel
theorem dX7_sumOfBasis_30 : decode cX7_sumOfBasis 30 = .ok (.aload 7, 2) := by decide +kernel
theorem dX7_sumOfBasis_32 : decode cX7_sumOfBasis 32 = .ok (.iload_n 3, 1) := by decide +kernel
theorem dX7_sumOfBasis_33 : decode cX7_sumOfBasis 33 = .ok (.invokevirtual 260, 3) := by decide +kernel
theorem dX7_sumOfBasis_36 : decode cX7_sumOfBasis 36 = .ok (.ladd, 1) := by decide +kernel
theorem dX7_sumOfBasis_37 : decode cX7_sumOfBasis 37 = .ok (.lstore 4, 2) := by decide +kernel
theorem dX7_sumOfBasis_39 : decode cX7_sumOfBasis 39 = .ok (.iinc 6 1, 3) := by decide +kernel
theorem dX7_sumOfBasis_42 : decode cX7_sumOfBasis 42 = .ok (.goto (-36), 3) := by decide +kernel
theorem dX7_sumOfBasis_45 : decode cX7_sumOfBasis 45 = .ok (.lload 4, 2) := by decide +kernel
theorem dX7_sumOfBasis_47 : decode cX7_sumOfBasis 47 = .ok (.lreturn, 1) := by decide +kernel
theorem dX7_spread_0 : decode cX7_spread 0 = .ok (.aconst_null, 1) := by decide +kernel
theorem dX7_spread_1 : decode cX7_spread 1 = .ok (.astore 7, 2) := by decide +kernel
theorem dX7_spread_3 : decode cX7_spread 3 = .ok (.iload_n 1, 1) := by decide +kernel
theorem dX7_spread_4 : decode cX7_spread 4 = .ok (.istore 8, 2) := by decide +kernel
theorem dX7_spread_6 : decode cX7_spread 6 = .ok (.bipush 59, 2) := by decide +kernel
theorem dX7_spread_8 : decode cX7_spread 8 = .ok (.istore 9, 2) := by decide +kernel
theorem dX7_spread_10 : decode cX7_spread 10 = .ok (.iload 9, 2) := by decide +kernel
theorem dX7_spread_12 : decode cX7_spread 12 = .ok (.ifCond .lt 76, 3) := by decide +kernel
theorem dX7_spread_15 : decode cX7_spread 15 = .ok (.aload_n 0, 1) := by decide +kernel
theorem dX7_spread_16 : decode cX7_spread 16 = .ok (.lload_n 3, 1) := by decide +kernel
theorem dX7_spread_17 : decode cX7_spread 17 = .ok (.iload 9, 2) := by decide +kernel
theorem dX7_spread_19 : decode cX7_spread 19 = .ok (.invokevirtual 228, 3) := by decide +kernel
theorem dX7_spread_22 : decode cX7_spread 22 = .ok (.astore 10, 2) := by decide +kernel
theorem dX7_spread_24 : decode cX7_spread 24 = .ok (.aload 10, 2) := by decide +kernel
theorem dX7_spread_26 : decode cX7_spread 26 = .ok (.ifnull 56, 3) := by decide +kernel
theorem dX7_spread_29 : decode cX7_spread 29 = .ok (.lload 5, 2) := by decide +kernel
theorem dX7_spread_31 : decode cX7_spread 31 = .ok (.lconst 0, 1) := by decide +kernel
theorem dX7_spread_32 : decode cX7_spread 32 = .ok (.lcmp, 1) := by decide +kernel
theorem dX7_spread_33 : decode cX7_spread 33 = .ok (.ifCond .le 49, 3) := by decide +kernel
theorem dX7_spread_36 : decode cX7_spread 36 = .ok (.iload_n 1, 1) := by decide +kernel
theorem dX7_spread_37 : decode cX7_spread 37 = .ok (.i2l, 1) := by decide +kernel
theorem dX7_spread_38 : decode cX7_spread 38 = .ok (.aload_n 0, 1) := by decide +kernel
theorem dX7_spread_39 : decode cX7_spread 39 = .ok (.aload 10, 2) := by decide +kernel
theorem dX7_spread_41 : decode cX7_spread 41 = .ok (.iload_n 2, 1) := by decide +kernel
theorem dX7_spread_42 : decode cX7_spread 42 = .ok (.invokevirtual 260, 3) := by decide +kernel
theorem dX7_spread_45 : decode cX7_spread 45 = .ok (.lmul, 1) := by decide +kernel
theorem dX7_spread_46 : decode cX7_spread 46 = .ok (.lstore 11, 2) := by decide +kernel
theorem dX7_spread_48 : decode cX7_spread 48 = .ok (.new 154, 3) := by decide +kernel
theorem dX7_spread_51 : decode cX7_spread 51 = .ok (.dup, 1) := by decide +kernel
theorem dX7_spread_52 : decode cX7_spread 52 = .ok (.aload 10, 2) := by decide +kernel
theorem dX7_spread_54 : decode cX7_spread 54 = .ok (.lload 11, 2) := by decide +kernel
theorem dX7_spread_56 : decode cX7_spread 56 = .ok (.lload 5, 2) := by decide +kernel
theorem dX7_spread_58 : decode cX7_spread 58 = .ok (.ldiv, 1) := by decide +kernel
theorem dX7_spread_59 : decode cX7_spread 59 = .ok (.l2i, 1) := by decide +kernel
theorem dX7_spread_60 : decode cX7_spread 60 = .ok (.lload 11, 2) := by decide +kernel
theorem dX7_spread_62 : decode cX7_spread 62 = .ok (.lload 5, 2) := by decide +kernel
theorem dX7_spread_64 : decode cX7_spread 64 = .ok (.lrem, 1) := by decide +kernel
theorem dX7_spread_65 : decode cX7_spread 65 = .ok (.aload 7, 2) := by decide +kernel
theorem dX7_spread_67 : decode cX7_spread 67 = .ok (.invokespecial 264, 3) := by decide +kernel
theorem dX7_spread_70 : decode cX7_spread 70 = .ok (.astore 7, 2) := by decide +kernel
theorem dX7_spread_72 : decode cX7_spread 72 = .ok (.iload 8, 2) := by decide +kernel
theorem dX7_spread_74 : decode cX7_spread 74 = .ok (.aload 7, 2) := by decide +kernel
theorem dX7_spread_76 : decode cX7_spread 76 = .ok (.getfield 153, 3) := by decide +kernel
theorem dX7_spread_79 : decode cX7_spread 79 = .ok (.isub, 1) := by decide +kernel
theorem dX7_spread_80 : decode cX7_spread 80 = .ok (.istore 8, 2) := by decide +kernel
theorem dX7_spread_82 : decode cX7_spread 82 = .ok (.iinc 9 (-1), 3) := by decide +kernel
theorem dX7_spread_85 : decode cX7_spread 85 = .ok (.goto (-75), 3) := by decide +kernel
theorem dX7_spread_88 : decode cX7_spread 88 = .ok (.iconst 0, 1) := by decide +kernel
theorem dX7_spread_89 : decode cX7_spread 89 = .ok (.istore 9, 2) := by decide +kernel
theorem dX7_spread_91 : decode cX7_spread 91 = .ok (.iload 9, 2) := by decide +kernel
theorem dX7_spread_93 : decode cX7_spread 93 = .ok (.iload 8, 2) := by decide +kernel
theorem dX7_spread_95 : decode cX7_spread 95 = .ok (.if_icmp .ge 14, 3) := by decide +kernel
theorem dX7_spread_98 : decode cX7_spread 98 = .ok (.aload 7, 2) := by decide +kernel
theorem dX7_spread_100 : decode cX7_spread 100 = .ok (.invokestatic 267, 3) := by decide +kernel
theorem dX7_spread_103 : decode cX7_spread 103 = .ok (.iinc 9 1, 3) := by decide +kernel
theorem dX7_spread_106 : decode cX7_spread 106 = .ok (.goto (-15), 3) := by decide +kernel
theorem dX7_spread_109 : decode cX7_spread 109 = .ok (.aload 7, 2) := by decide +kernel
theorem dX7_spread_111 : decode cX7_spread 111 = .ok (.areturn, 1) := by decide +kernel
theorem dX7_giveCent_0 : decode cX7_giveCent 0 = .ok (.aload_n 0, 1) := by decide +kernel
theorem dX7_giveCent_1 : decode cX7_giveCent 1 = .ok (.astore_n 1, 1) := by decide +kernel
theorem dX7_giveCent_2 : decode cX7_giveCent 2 = .ok (.aload_n 0, 1) := by decide +kernel
theorem dX7_giveCent_3 : decode cX7_giveCent 3 = .ok (.astore_n 2, 1) := by decide +kernel
theorem dX7_giveCent_4 : decode cX7_giveCent 4 = .ok (.aload_n 2, 1) := by decide +kernel
theorem dX7_giveCent_5 : decode cX7_giveCent 5 = .ok (.ifnull 29, 3) := by decide +kernel
theorem dX7_giveCent_8 : decode cX7_giveCent 8 = .ok (.aload_n 1, 1) := by decide +kernel
theorem dX7_giveCent_9 : decode cX7_giveCent 9 = .ok (.ifnull 17, 3) := by decide +kernel
theorem dX7_giveCent_12 : decode cX7_giveCent 12 = .ok (.aload_n 2, 1) := by decide +kernel
theorem dX7_giveCent_13 : decode cX7_giveCent 13 = .ok (.getfield 271, 3) := by decide +kernel
theorem dX7_giveCent_16 : decode cX7_giveCent 16 = .ok (.aload_n 1, 1) := by decide +kernel
theorem dX7_giveCent_17 : decode cX7_giveCent 17 = .ok (.getfield 271, 3) := by decide +kernel
theorem dX7_giveCent_20 : decode cX7_giveCent 20 = .ok (.lcmp, 1) := by decide +kernel
theorem dX7_giveCent_21 : decode cX7_giveCent 21 = .ok (.ifCond .le 5, 3) := by decide +kernel
theorem dX7_giveCent_24 : decode cX7_giveCent 24 = .ok (.aload_n 2, 1) := by decide +kernel
theorem dX7_giveCent_25 : decode cX7_giveCent 25 = .ok (.astore_n 1, 1) := by decide +kernel
theorem dX7_giveCent_26 : decode cX7_giveCent 26 = .ok (.aload_n 2, 1) := by decide +kernel
theorem dX7_giveCent_27 : decode cX7_giveCent 27 = .ok (.getfield 274, 3) := by decide +kernel
theorem dX7_giveCent_30 : decode cX7_giveCent 30 = .ok (.astore_n 2, 1) := by decide +kernel
theorem dX7_giveCent_31 : decode cX7_giveCent 31 = .ok (.goto (-27), 3) := by decide +kernel
theorem dX7_giveCent_34 : decode cX7_giveCent 34 = .ok (.aload_n 1, 1) := by decide +kernel
theorem dX7_giveCent_35 : decode cX7_giveCent 35 = .ok (.ifnull 20, 3) := by decide +kernel
theorem dX7_giveCent_38 : decode cX7_giveCent 38 = .ok (.aload_n 1, 1) := by decide +kernel
theorem dX7_giveCent_39 : decode cX7_giveCent 39 = .ok (.dup, 1) := by decide +kernel
theorem dX7_giveCent_40 : decode cX7_giveCent 40 = .ok (.getfield 153, 3) := by decide +kernel
theorem dX7_giveCent_43 : decode cX7_giveCent 43 = .ok (.iconst 1, 1) := by decide +kernel
theorem dX7_giveCent_44 : decode cX7_giveCent 44 = .ok (.iadd, 1) := by decide +kernel
theorem dX7_giveCent_45 : decode cX7_giveCent 45 = .ok (.putfield 153, 3) := by decide +kernel
theorem dX7_giveCent_48 : decode cX7_giveCent 48 = .ok (.aload_n 1, 1) := by decide +kernel
theorem dX7_giveCent_49 : decode cX7_giveCent 49 = .ok (.ldc2_w 277, 3) := by decide +kernel
theorem dX7_giveCent_52 : decode cX7_giveCent 52 = .ok (.putfield 271, 3) := by decide +kernel
theorem dX7_giveCent_55 : decode cX7_giveCent 55 = .ok (.return_, 1) := by decide +kernel
