theorem dL_dice_0 : decode cL_dice 0 = .ok (.iload_n 1, 1) := by decide +kernel
theorem dL_dice_1 : decode cL_dice 1 = .ok (.aload_n 0, 1) := by decide +kernel
theorem dL_dice_2 : decode cL_dice 2 = .ok (.arraylength, 1) := by decide +kernel
theorem dL_dice_3 : decode cL_dice 3 = .ok (.if_icmp .ge 9, 3) := by decide +kernel
theorem dL_dice_6 : decode cL_dice 6 = .ok (.aload_n 0, 1) := by decide +kernel
theorem dL_dice_7 : decode cL_dice 7 = .ok (.iload_n 1, 1) := by decide +kernel
theorem dL_dice_8 : decode cL_dice 8 = .ok (.iaload, 1) := by decide +kernel
theorem dL_dice_9 : decode cL_dice 9 = .ok (.goto 21, 3) := by decide +kernel
theorem dL_dice_12 : decode cL_dice 12 = .ok (.ldc 7, 2) := by decide +kernel
theorem dL_dice_14 : decode cL_dice 14 = .ok (.iload_n 1, 1) := by decide +kernel
theorem dL_dice_15 : decode cL_dice 15 = .ok (.bipush 37, 2) := by decide +kernel
theorem dL_dice_17 : decode cL_dice 17 = .ok (.iadd, 1) := by decide +kernel
theorem dL_dice_18 : decode cL_dice 18 = .ok (.imul, 1) := by decide +kernel
theorem dL_dice_19 : decode cL_dice 19 = .ok (.sipush 541, 3) := by decide +kernel
theorem dL_dice_22 : decode cL_dice 22 = .ok (.iload_n 1, 1) := by decide +kernel
theorem dL_dice_23 : decode cL_dice 23 = .ok (.imul, 1) := by decide +kernel
theorem dL_dice_24 : decode cL_dice 24 = .ok (.iload_n 1, 1) := by decide +kernel
theorem dL_dice_25 : decode cL_dice 25 = .ok (.imul, 1) := by decide +kernel
theorem dL_dice_26 : decode cL_dice 26 = .ok (.iadd, 1) := by decide +kernel
theorem dL_dice_27 : decode cL_dice 27 = .ok (.ldc 8, 2) := by decide +kernel
theorem dL_dice_29 : decode cL_dice 29 = .ok (.iadd, 1) := by decide +kernel
theorem dL_dice_30 : decode cL_dice 30 = .ok (.ldc 9, 2) := by decide +kernel
theorem dL_dice_32 : decode cL_dice 32 = .ok (.iand, 1) := by decide +kernel
theorem dL_dice_33 : decode cL_dice 33 = .ok (.ireturn, 1) := by decide +kernel
theorem dL_receive_0 : decode cL_receive 0 = .ok (.aload_n 0, 1) := by decide +kernel
theorem dL_receive_1 : decode cL_receive 1 = .ok (.iload_n 1, 1) := by decide +kernel
theorem dL_receive_2 : decode cL_receive 2 = .ok (.iload_n 2, 1) := by decide +kernel
theorem dL_receive_3 : decode cL_receive 3 = .ok (.iload_n 3, 1) := by decide +kernel
theorem dL_receive_4 : decode cL_receive 4 = .ok (.iload 4, 2) := by decide +kernel
theorem dL_receive_6 : decode cL_receive 6 = .ok (.invokevirtual 10, 3) := by decide +kernel
theorem dL_receive_9 : decode cL_receive 9 = .ok (.ireturn, 1) := by decide +kernel
theorem dL_receive_10 : decode cL_receive 10 = .ok (.astore 5, 2) := by decide +kernel
theorem dL_receive_12 : decode cL_receive 12 = .ok (.bipush (-6), 2) := by decide +kernel
theorem dL_receive_14 : decode cL_receive 14 = .ok (.ireturn, 1) := by decide +kernel
theorem dL_receive_15 : decode cL_receive 15 = .ok (.astore 5, 2) := by decide +kernel
theorem dL_receive_17 : decode cL_receive 17 = .ok (.bipush (-7), 2) := by decide +kernel
theorem dL_receive_19 : decode cL_receive 19 = .ok (.ireturn, 1) := by decide +kernel
theorem dL_issue_0 : decode cL_issue 0 = .ok (.aload_n 0, 1) := by decide +kernel
theorem dL_issue_1 : decode cL_issue 1 = .ok (.iload_n 1, 1) := by decide +kernel
theorem dL_issue_2 : decode cL_issue 2 = .ok (.iload_n 2, 1) := by decide +kernel
theorem dL_issue_3 : decode cL_issue 3 = .ok (.iload_n 3, 1) := by decide +kernel
theorem dL_issue_4 : decode cL_issue 4 = .ok (.invokevirtual 20, 3) := by decide +kernel
theorem dL_issue_7 : decode cL_issue 7 = .ok (.ireturn, 1) := by decide +kernel
theorem dL_issue_8 : decode cL_issue 8 = .ok (.astore 4, 2) := by decide +kernel
theorem dL_issue_10 : decode cL_issue 10 = .ok (.bipush (-6), 2) := by decide +kernel
theorem dL_issue_12 : decode cL_issue 12 = .ok (.ireturn, 1) := by decide +kernel
theorem dL_issue_13 : decode cL_issue 13 = .ok (.astore 4, 2) := by decide +kernel
theorem dL_issue_15 : decode cL_issue 15 = .ok (.bipush (-7), 2) := by decide +kernel
theorem dL_issue_17 : decode cL_issue 17 = .ok (.ireturn, 1) := by decide +kernel
theorem dL_revalue_0 : decode cL_revalue 0 = .ok (.aload_n 0, 1) := by decide +kernel
theorem dL_revalue_1 : decode cL_revalue 1 = .ok (.iload_n 1, 1) := by decide +kernel
theorem dL_revalue_2 : decode cL_revalue 2 = .ok (.iload_n 2, 1) := by decide +kernel
theorem dL_revalue_3 : decode cL_revalue 3 = .ok (.iload_n 3, 1) := by decide +kernel
theorem dL_revalue_4 : decode cL_revalue 4 = .ok (.iload 4, 2) := by decide +kernel
theorem dL_revalue_6 : decode cL_revalue 6 = .ok (.invokevirtual 24, 3) := by decide +kernel
theorem dL_revalue_9 : decode cL_revalue 9 = .ok (.ireturn, 1) := by decide +kernel
theorem dL_revalue_10 : decode cL_revalue 10 = .ok (.astore 5, 2) := by decide +kernel
theorem dL_revalue_12 : decode cL_revalue 12 = .ok (.bipush (-6), 2) := by decide +kernel
theorem dL_revalue_14 : decode cL_revalue 14 = .ok (.ireturn, 1) := by decide +kernel
theorem dL_revalue_15 : decode cL_revalue 15 = .ok (.astore 5, 2) := by decide +kernel
theorem dL_revalue_17 : decode cL_revalue 17 = .ok (.bipush (-7), 2) := by decide +kernel
theorem dL_revalue_19 : decode cL_revalue 19 = .ok (.ireturn, 1) := by decide +kernel
theorem dL_land_0 : decode cL_land 0 = .ok (.aload_n 0, 1) := by decide +kernel
theorem dL_land_1 : decode cL_land 1 = .ok (.iload_n 1, 1) := by decide +kernel
theorem dL_land_2 : decode cL_land 2 = .ok (.iload_n 2, 1) := by decide +kernel
theorem dL_land_3 : decode cL_land 3 = .ok (.iload_n 3, 1) := by decide +kernel
theorem dL_land_4 : decode cL_land 4 = .ok (.lload 4, 2) := by decide +kernel
theorem dL_land_6 : decode cL_land 6 = .ok (.invokevirtual 27, 3) := by decide +kernel
theorem dL_land_9 : decode cL_land 9 = .ok (.ireturn, 1) := by decide +kernel
theorem dL_land_10 : decode cL_land 10 = .ok (.astore 6, 2) := by decide +kernel
theorem dL_land_12 : decode cL_land 12 = .ok (.bipush (-6), 2) := by decide +kernel
theorem dL_land_14 : decode cL_land 14 = .ok (.ireturn, 1) := by decide +kernel
theorem dL_land_15 : decode cL_land 15 = .ok (.astore 6, 2) := by decide +kernel
theorem dL_land_17 : decode cL_land 17 = .ok (.bipush (-5), 2) := by decide +kernel
theorem dL_land_19 : decode cL_land 19 = .ok (.ireturn, 1) := by decide +kernel
theorem dL_land_20 : decode cL_land 20 = .ok (.astore 6, 2) := by decide +kernel
theorem dL_land_22 : decode cL_land 22 = .ok (.bipush (-7), 2) := by decide +kernel
theorem dL_land_24 : decode cL_land 24 = .ok (.ireturn, 1) := by decide +kernel
theorem dL_cancel_0 : decode cL_cancel 0 = .ok (.aload_n 0, 1) := by decide +kernel
theorem dL_cancel_1 : decode cL_cancel 1 = .ok (.iload_n 1, 1) := by decide +kernel
theorem dL_cancel_2 : decode cL_cancel 2 = .ok (.invokevirtual 33, 3) := by decide +kernel
theorem dL_cancel_5 : decode cL_cancel 5 = .ok (.ireturn, 1) := by decide +kernel
theorem dL_cancel_6 : decode cL_cancel 6 = .ok (.astore_n 2, 1) := by decide +kernel
theorem dL_cancel_7 : decode cL_cancel 7 = .ok (.bipush (-5), 2) := by decide +kernel
theorem dL_cancel_9 : decode cL_cancel 9 = .ok (.ireturn, 1) := by decide +kernel
theorem dL_cancel_10 : decode cL_cancel 10 = .ok (.astore_n 2, 1) := by decide +kernel
theorem dL_cancel_11 : decode cL_cancel 11 = .ok (.bipush (-7), 2) := by decide +kernel
theorem dL_cancel_13 : decode cL_cancel 13 = .ok (.ireturn, 1) := by decide +kernel
theorem dL_close_0 : decode cL_close 0 = .ok (.aload_n 0, 1) := by decide +kernel
theorem dL_close_1 : decode cL_close 1 = .ok (.iload_n 1, 1) := by decide +kernel
theorem dL_close_2 : decode cL_close 2 = .ok (.invokevirtual 37, 3) := by decide +kernel
theorem dL_close_5 : decode cL_close 5 = .ok (.ireturn, 1) := by decide +kernel
theorem dL_close_6 : decode cL_close 6 = .ok (.astore_n 2, 1) := by decide +kernel
theorem dL_close_7 : decode cL_close 7 = .ok (.bipush (-6), 2) := by decide +kernel
theorem dL_close_9 : decode cL_close 9 = .ok (.ireturn, 1) := by decide +kernel
theorem dL_close_10 : decode cL_close 10 = .ok (.astore_n 2, 1) := by decide +kernel
theorem dL_close_11 : decode cL_close 11 = .ok (.bipush (-7), 2) := by decide +kernel
theorem dL_close_13 : decode cL_close 13 = .ok (.ireturn, 1) := by decide +kernel
theorem dL_setWeight_0 : decode cL_setWeight 0 = .ok (.aload_n 0, 1) := by decide +kernel
theorem dL_setWeight_1 : decode cL_setWeight 1 = .ok (.iload_n 1, 1) := by decide +kernel
theorem dL_setWeight_2 : decode cL_setWeight 2 = .ok (.iload_n 2, 1) := by decide +kernel
theorem dL_setWeight_3 : decode cL_setWeight 3 = .ok (.invokevirtual 40, 3) := by decide +kernel
theorem dL_setWeight_6 : decode cL_setWeight 6 = .ok (.ireturn, 1) := by decide +kernel
theorem dL_setWeight_7 : decode cL_setWeight 7 = .ok (.astore_n 3, 1) := by decide +kernel
theorem dL_setWeight_8 : decode cL_setWeight 8 = .ok (.bipush (-6), 2) := by decide +kernel
theorem dL_setWeight_10 : decode cL_setWeight 10 = .ok (.ireturn, 1) := by decide +kernel
theorem dL_movement_0 : decode cL_movement 0 = .ok (.iload_n 2, 1) := by decide +kernel
theorem dL_movement_1 : decode cL_movement 1 = .ok (.ifCond .ne 11, 3) := by decide +kernel
theorem dL_movement_4 : decode cL_movement 4 = .ok (.aload_n 0, 1) := by decide +kernel
theorem dL_movement_5 : decode cL_movement 5 = .ok (.iload_n 1, 1) := by decide +kernel
theorem dL_movement_6 : decode cL_movement 6 = .ok (.invokevirtual 44, 3) := by decide +kernel
theorem dL_movement_9 : decode cL_movement 9 = .ok (.goto 42, 3) := by decide +kernel
theorem dL_movement_12 : decode cL_movement 12 = .ok (.iload_n 2, 1) := by decide +kernel
theorem dL_movement_13 : decode cL_movement 13 = .ok (.iconst 1, 1) := by decide +kernel
theorem dL_movement_14 : decode cL_movement 14 = .ok (.if_icmp .ne 11, 3) := by decide +kernel
theorem dL_movement_17 : decode cL_movement 17 = .ok (.aload_n 0, 1) := by decide +kernel
theorem dL_movement_18 : decode cL_movement 18 = .ok (.iload_n 1, 1) := by decide +kernel
theorem dL_movement_19 : decode cL_movement 19 = .ok (.invokevirtual 47, 3) := by decide +kernel
theorem dL_movement_22 : decode cL_movement 22 = .ok (.goto 29, 3) := by decide +kernel
theorem dL_movement_25 : decode cL_movement 25 = .ok (.iload_n 2, 1) := by decide +kernel
theorem dL_movement_26 : decode cL_movement 26 = .ok (.iconst 2, 1) := by decide +kernel
theorem dL_movement_27 : decode cL_movement 27 = .ok (.if_icmp .ne 11, 3) := by decide +kernel
theorem dL_movement_30 : decode cL_movement 30 = .ok (.aload_n 0, 1) := by decide +kernel
theorem dL_movement_31 : decode cL_movement 31 = .ok (.iload_n 1, 1) := by decide +kernel
theorem dL_movement_32 : decode cL_movement 32 = .ok (.invokevirtual 50, 3) := by decide +kernel
theorem dL_movement_35 : decode cL_movement 35 = .ok (.goto 16, 3) := by decide +kernel
theorem dL_movement_38 : decode cL_movement 38 = .ok (.aload_n 0, 1) := by decide +kernel
theorem dL_movement_39 : decode cL_movement 39 = .ok (.iload_n 1, 1) := by decide +kernel
theorem dL_movement_40 : decode cL_movement 40 = .ok (.invokevirtual 53, 3) := by decide +kernel
theorem dL_movement_43 : decode cL_movement 43 = .ok (.ifCond .eq 7, 3) := by decide +kernel
theorem dL_movement_46 : decode cL_movement 46 = .ok (.iconst 1, 1) := by decide +kernel
theorem dL_movement_47 : decode cL_movement 47 = .ok (.goto 4, 3) := by decide +kernel
theorem dL_movement_50 : decode cL_movement 50 = .ok (.iconst 0, 1) := by decide +kernel
theorem dL_movement_51 : decode cL_movement 51 = .ok (.ireturn, 1) := by decide +kernel
theorem dL_movement_52 : decode cL_movement 52 = .ok (.astore_n 3, 1) := by decide +kernel
theorem dL_movement_53 : decode cL_movement 53 = .ok (.bipush (-5), 2) := by decide +kernel
theorem dL_movement_55 : decode cL_movement 55 = .ok (.ireturn, 1) := by decide +kernel
theorem dL_partOf_0 : decode cL_partOf 0 = .ok (.aload_n 0, 1) := by decide +kernel
theorem dL_partOf_1 : decode cL_partOf 1 = .ok (.iload_n 1, 1) := by decide +kernel
theorem dL_partOf_2 : decode cL_partOf 2 = .ok (.iload_n 2, 1) := by decide +kernel
theorem dL_partOf_3 : decode cL_partOf 3 = .ok (.invokevirtual 57, 3) := by decide +kernel
theorem dL_partOf_6 : decode cL_partOf 6 = .ok (.ireturn, 1) := by decide +kernel
theorem dL_partOf_7 : decode cL_partOf 7 = .ok (.astore_n 3, 1) := by decide +kernel
theorem dL_partOf_8 : decode cL_partOf 8 = .ok (.bipush (-5), 2) := by decide +kernel
theorem dL_partOf_10 : decode cL_partOf 10 = .ok (.ireturn, 1) := by decide +kernel
theorem dL_partOf_11 : decode cL_partOf 11 = .ok (.astore_n 3, 1) := by decide +kernel
theorem dL_partOf_12 : decode cL_partOf 12 = .ok (.bipush (-7), 2) := by decide +kernel
theorem dL_partOf_14 : decode cL_partOf 14 = .ok (.ireturn, 1) := by decide +kernel
theorem dL_costOf_0 : decode cL_costOf 0 = .ok (.aload_n 0, 1) := by decide +kernel
theorem dL_costOf_1 : decode cL_costOf 1 = .ok (.iload_n 1, 1) := by decide +kernel
theorem dL_costOf_2 : decode cL_costOf 2 = .ok (.iload_n 2, 1) := by decide +kernel
theorem dL_costOf_3 : decode cL_costOf 3 = .ok (.invokevirtual 60, 3) := by decide +kernel
theorem dL_costOf_6 : decode cL_costOf 6 = .ok (.lreturn, 1) := by decide +kernel
theorem dL_costOf_7 : decode cL_costOf 7 = .ok (.astore_n 3, 1) := by decide +kernel
theorem dL_costOf_8 : decode cL_costOf 8 = .ok (.ldc2_w 64, 3) := by decide +kernel
theorem dL_costOf_11 : decode cL_costOf 11 = .ok (.lreturn, 1) := by decide +kernel
theorem dL_costOf_12 : decode cL_costOf 12 = .ok (.astore_n 3, 1) := by decide +kernel
theorem dL_costOf_13 : decode cL_costOf 13 = .ok (.ldc2_w 66, 3) := by decide +kernel
theorem dL_costOf_16 : decode cL_costOf 16 = .ok (.lreturn, 1) := by decide +kernel
theorem dL_layer_0 : decode cL_layer 0 = .ok (.iload 4, 2) := by decide +kernel
theorem dL_layer_2 : decode cL_layer 2 = .ok (.ifCond .ne 14, 3) := by decide +kernel
theorem dL_layer_5 : decode cL_layer 5 = .ok (.aload_n 0, 1) := by decide +kernel
theorem dL_layer_6 : decode cL_layer 6 = .ok (.iload_n 1, 1) := by decide +kernel
theorem dL_layer_7 : decode cL_layer 7 = .ok (.iload_n 2, 1) := by decide +kernel
theorem dL_layer_8 : decode cL_layer 8 = .ok (.iload_n 3, 1) := by decide +kernel
theorem dL_layer_9 : decode cL_layer 9 = .ok (.invokevirtual 68, 3) := by decide +kernel
theorem dL_layer_12 : decode cL_layer 12 = .ok (.i2l, 1) := by decide +kernel
theorem dL_layer_13 : decode cL_layer 13 = .ok (.goto 27, 3) := by decide +kernel
theorem dL_layer_16 : decode cL_layer 16 = .ok (.iload 4, 2) := by decide +kernel
theorem dL_layer_18 : decode cL_layer 18 = .ok (.iconst 1, 1) := by decide +kernel
theorem dL_layer_19 : decode cL_layer 19 = .ok (.if_icmp .ne 13, 3) := by decide +kernel
theorem dL_layer_22 : decode cL_layer 22 = .ok (.aload_n 0, 1) := by decide +kernel
theorem dL_layer_23 : decode cL_layer 23 = .ok (.iload_n 1, 1) := by decide +kernel
theorem dL_layer_24 : decode cL_layer 24 = .ok (.iload_n 2, 1) := by decide +kernel
theorem dL_layer_25 : decode cL_layer 25 = .ok (.iload_n 3, 1) := by decide +kernel
theorem dL_layer_26 : decode cL_layer 26 = .ok (.invokevirtual 71, 3) := by decide +kernel
theorem dL_layer_29 : decode cL_layer 29 = .ok (.goto 11, 3) := by decide +kernel
theorem dL_layer_32 : decode cL_layer 32 = .ok (.aload_n 0, 1) := by decide +kernel
theorem dL_layer_33 : decode cL_layer 33 = .ok (.iload_n 1, 1) := by decide +kernel
theorem dL_layer_34 : decode cL_layer 34 = .ok (.iload_n 2, 1) := by decide +kernel
theorem dL_layer_35 : decode cL_layer 35 = .ok (.iload_n 3, 1) := by decide +kernel
theorem dL_layer_36 : decode cL_layer 36 = .ok (.invokevirtual 75, 3) := by decide +kernel
theorem dL_layer_39 : decode cL_layer 39 = .ok (.i2l, 1) := by decide +kernel
theorem dL_layer_40 : decode cL_layer 40 = .ok (.lreturn, 1) := by decide +kernel
theorem dL_layer_41 : decode cL_layer 41 = .ok (.astore 5, 2) := by decide +kernel
theorem dL_layer_43 : decode cL_layer 43 = .ok (.ldc2_w 78, 3) := by decide +kernel
theorem dL_layer_46 : decode cL_layer 46 = .ok (.lreturn, 1) := by decide +kernel
theorem dL_layer_47 : decode cL_layer 47 = .ok (.astore 5, 2) := by decide +kernel
theorem dL_layer_49 : decode cL_layer 49 = .ok (.ldc2_w 64, 3) := by decide +kernel
theorem dL_layer_52 : decode cL_layer 52 = .ok (.lreturn, 1) := by decide +kernel
theorem dL_ask_0 : decode cL_ask 0 = .ok (.iload_n 3, 1) := by decide +kernel
theorem dL_ask_1 : decode cL_ask 1 = .ok (.ifCond .ne 13, 3) := by decide +kernel
theorem dL_ask_4 : decode cL_ask 4 = .ok (.aload_n 0, 1) := by decide +kernel
theorem dL_ask_5 : decode cL_ask 5 = .ok (.iload_n 1, 1) := by decide +kernel
theorem dL_ask_6 : decode cL_ask 6 = .ok (.iload_n 2, 1) := by decide +kernel
theorem dL_ask_7 : decode cL_ask 7 = .ok (.invokevirtual 80, 3) := by decide +kernel
theorem dL_ask_10 : decode cL_ask 10 = .ok (.i2l, 1) := by decide +kernel
theorem dL_ask_11 : decode cL_ask 11 = .ok (.goto 141, 3) := by decide +kernel
theorem dL_ask_14 : decode cL_ask 14 = .ok (.iload_n 3, 1) := by decide +kernel
theorem dL_ask_15 : decode cL_ask 15 = .ok (.iconst 1, 1) := by decide +kernel
theorem dL_ask_16 : decode cL_ask 16 = .ok (.if_icmp .ne 13, 3) := by decide +kernel
theorem dL_ask_19 : decode cL_ask 19 = .ok (.aload_n 0, 1) := by decide +kernel
theorem dL_ask_20 : decode cL_ask 20 = .ok (.iload_n 1, 1) := by decide +kernel
theorem dL_ask_21 : decode cL_ask 21 = .ok (.iload_n 2, 1) := by decide +kernel
theorem dL_ask_22 : decode cL_ask 22 = .ok (.invokevirtual 83, 3) := by decide +kernel
theorem dL_ask_25 : decode cL_ask 25 = .ok (.i2l, 1) := by decide +kernel
theorem dL_ask_26 : decode cL_ask 26 = .ok (.goto 126, 3) := by decide +kernel
theorem dL_ask_29 : decode cL_ask 29 = .ok (.iload_n 3, 1) := by decide +kernel
theorem dL_ask_30 : decode cL_ask 30 = .ok (.iconst 2, 1) := by decide +kernel
theorem dL_ask_31 : decode cL_ask 31 = .ok (.if_icmp .ne 12, 3) := by decide +kernel
theorem dL_ask_34 : decode cL_ask 34 = .ok (.aload_n 0, 1) := by decide +kernel
theorem dL_ask_35 : decode cL_ask 35 = .ok (.iload_n 1, 1) := by decide +kernel
theorem dL_ask_36 : decode cL_ask 36 = .ok (.iload_n 2, 1) := by decide +kernel
theorem dL_ask_37 : decode cL_ask 37 = .ok (.invokevirtual 86, 3) := by decide +kernel
theorem dL_ask_40 : decode cL_ask 40 = .ok (.goto 112, 3) := by decide +kernel
theorem dL_ask_43 : decode cL_ask 43 = .ok (.iload_n 3, 1) := by decide +kernel
theorem dL_ask_44 : decode cL_ask 44 = .ok (.iconst 3, 1) := by decide +kernel
theorem dL_ask_45 : decode cL_ask 45 = .ok (.if_icmp .ne 13, 3) := by decide +kernel
theorem dL_ask_48 : decode cL_ask 48 = .ok (.aload_n 0, 1) := by decide +kernel
theorem dL_ask_49 : decode cL_ask 49 = .ok (.iload_n 1, 1) := by decide +kernel
theorem dL_ask_50 : decode cL_ask 50 = .ok (.iload_n 2, 1) := by decide +kernel
theorem dL_ask_51 : decode cL_ask 51 = .ok (.invokevirtual 90, 3) := by decide +kernel
theorem dL_ask_54 : decode cL_ask 54 = .ok (.i2l, 1) := by decide +kernel
theorem dL_ask_55 : decode cL_ask 55 = .ok (.goto 97, 3) := by decide +kernel
theorem dL_ask_58 : decode cL_ask 58 = .ok (.iload_n 3, 1) := by decide +kernel
theorem dL_ask_59 : decode cL_ask 59 = .ok (.bipush 6, 2) := by decide +kernel
theorem dL_ask_61 : decode cL_ask 61 = .ok (.if_icmp .ge 22, 3) := by decide +kernel
theorem dL_ask_64 : decode cL_ask 64 = .ok (.aload_n 0, 1) := by decide +kernel
theorem dL_ask_65 : decode cL_ask 65 = .ok (.iload_n 1, 1) := by decide +kernel
theorem dL_ask_66 : decode cL_ask 66 = .ok (.iload_n 2, 1) := by decide +kernel
theorem dL_ask_67 : decode cL_ask 67 = .ok (.iload_n 3, 1) := by decide +kernel
theorem dL_ask_68 : decode cL_ask 68 = .ok (.iconst 5, 1) := by decide +kernel
theorem dL_ask_69 : decode cL_ask 69 = .ok (.if_icmp .ne 7, 3) := by decide +kernel
theorem dL_ask_72 : decode cL_ask 72 = .ok (.iconst 1, 1) := by decide +kernel
theorem dL_ask_73 : decode cL_ask 73 = .ok (.goto 4, 3) := by decide +kernel
theorem dL_ask_76 : decode cL_ask 76 = .ok (.iconst 0, 1) := by decide +kernel
theorem dL_ask_77 : decode cL_ask 77 = .ok (.invokevirtual 93, 3) := by decide +kernel
theorem dL_ask_80 : decode cL_ask 80 = .ok (.goto 72, 3) := by decide +kernel
theorem dL_ask_83 : decode cL_ask 83 = .ok (.iload_n 3, 1) := by decide +kernel
theorem dL_ask_84 : decode cL_ask 84 = .ok (.bipush 8, 2) := by decide +kernel
theorem dL_ask_86 : decode cL_ask 86 = .ok (.if_icmp .ge 23, 3) := by decide +kernel
theorem dL_ask_89 : decode cL_ask 89 = .ok (.aload_n 0, 1) := by decide +kernel
theorem dL_ask_90 : decode cL_ask 90 = .ok (.iload_n 1, 1) := by decide +kernel
theorem dL_ask_91 : decode cL_ask 91 = .ok (.iload_n 2, 1) := by decide +kernel
theorem dL_ask_92 : decode cL_ask 92 = .ok (.iload_n 3, 1) := by decide +kernel
theorem dL_ask_93 : decode cL_ask 93 = .ok (.bipush 7, 2) := by decide +kernel
theorem dL_ask_95 : decode cL_ask 95 = .ok (.if_icmp .ne 7, 3) := by decide +kernel
theorem dL_ask_98 : decode cL_ask 98 = .ok (.iconst 1, 1) := by decide +kernel
theorem dL_ask_99 : decode cL_ask 99 = .ok (.goto 4, 3) := by decide +kernel
theorem dL_ask_102 : decode cL_ask 102 = .ok (.iconst 0, 1) := by decide +kernel
theorem dL_ask_103 : decode cL_ask 103 = .ok (.invokevirtual 97, 3) := by decide +kernel
theorem dL_ask_106 : decode cL_ask 106 = .ok (.goto 46, 3) := by decide +kernel
theorem dL_ask_109 : decode cL_ask 109 = .ok (.iload_n 3, 1) := by decide +kernel
theorem dL_ask_110 : decode cL_ask 110 = .ok (.bipush 10, 2) := by decide +kernel
theorem dL_ask_112 : decode cL_ask 112 = .ok (.if_icmp .ge 23, 3) := by decide +kernel
theorem dL_ask_115 : decode cL_ask 115 = .ok (.aload_n 0, 1) := by decide +kernel
theorem dL_ask_116 : decode cL_ask 116 = .ok (.iload_n 1, 1) := by decide +kernel
theorem dL_ask_117 : decode cL_ask 117 = .ok (.iload_n 2, 1) := by decide +kernel
theorem dL_ask_118 : decode cL_ask 118 = .ok (.iload_n 3, 1) := by decide +kernel
theorem dL_ask_119 : decode cL_ask 119 = .ok (.bipush 9, 2) := by decide +kernel
theorem dL_ask_121 : decode cL_ask 121 = .ok (.if_icmp .ne 7, 3) := by decide +kernel
theorem dL_ask_124 : decode cL_ask 124 = .ok (.iconst 1, 1) := by decide +kernel
theorem dL_ask_125 : decode cL_ask 125 = .ok (.goto 4, 3) := by decide +kernel
theorem dL_ask_128 : decode cL_ask 128 = .ok (.iconst 0, 1) := by decide +kernel
theorem dL_ask_129 : decode cL_ask 129 = .ok (.invokevirtual 100, 3) := by decide +kernel
theorem dL_ask_132 : decode cL_ask 132 = .ok (.goto 20, 3) := by decide +kernel
theorem dL_ask_135 : decode cL_ask 135 = .ok (.aload_n 0, 1) := by decide +kernel
theorem dL_ask_136 : decode cL_ask 136 = .ok (.iload_n 1, 1) := by decide +kernel
theorem dL_ask_137 : decode cL_ask 137 = .ok (.iload_n 2, 1) := by decide +kernel
theorem dL_ask_138 : decode cL_ask 138 = .ok (.iload_n 3, 1) := by decide +kernel
theorem dL_ask_139 : decode cL_ask 139 = .ok (.bipush 11, 2) := by decide +kernel
theorem dL_ask_141 : decode cL_ask 141 = .ok (.if_icmp .ne 7, 3) := by decide +kernel
theorem dL_ask_144 : decode cL_ask 144 = .ok (.iconst 1, 1) := by decide +kernel
theorem dL_ask_145 : decode cL_ask 145 = .ok (.goto 4, 3) := by decide +kernel
theorem dL_ask_148 : decode cL_ask 148 = .ok (.iconst 0, 1) := by decide +kernel
theorem dL_ask_149 : decode cL_ask 149 = .ok (.invokevirtual 103, 3) := by decide +kernel
theorem dL_ask_152 : decode cL_ask 152 = .ok (.lreturn, 1) := by decide +kernel
theorem dL_ask_153 : decode cL_ask 153 = .ok (.astore 4, 2) := by decide +kernel
theorem dL_ask_155 : decode cL_ask 155 = .ok (.ldc2_w 106, 3) := by decide +kernel
theorem dL_ask_158 : decode cL_ask 158 = .ok (.lreturn, 1) := by decide +kernel
theorem dL_sight_0 : decode cL_sight 0 = .ok (.lconst 0, 1) := by decide +kernel
theorem dL_sight_1 : decode cL_sight 1 = .ok (.lstore_n 3, 1) := by decide +kernel
theorem dL_sight_2 : decode cL_sight 2 = .ok (.iload_n 2, 1) := by decide +kernel
theorem dL_sight_3 : decode cL_sight 3 = .ok (.istore 5, 2) := by decide +kernel
theorem dL_sight_5 : decode cL_sight 5 = .ok (.iload 5, 2) := by decide +kernel
theorem dL_sight_7 : decode cL_sight 7 = .ok (.ifCond .lt 49, 3) := by decide +kernel
theorem dL_sight_10 : decode cL_sight 10 = .ok (.iconst 0, 1) := by decide +kernel
theorem dL_sight_11 : decode cL_sight 11 = .ok (.istore 6, 2) := by decide +kernel
theorem dL_sight_13 : decode cL_sight 13 = .ok (.iload 6, 2) := by decide +kernel
theorem dL_sight_15 : decode cL_sight 15 = .ok (.bipush 12, 2) := by decide +kernel
theorem dL_sight_17 : decode cL_sight 17 = .ok (.if_icmp .ge 25, 3) := by decide +kernel
theorem dL_sight_20 : decode cL_sight 20 = .ok (.ldc2_w 108, 3) := by decide +kernel
theorem dL_sight_23 : decode cL_sight 23 = .ok (.lload_n 3, 1) := by decide +kernel
theorem dL_sight_24 : decode cL_sight 24 = .ok (.lmul, 1) := by decide +kernel
theorem dL_sight_25 : decode cL_sight 25 = .ok (.aload_n 0, 1) := by decide +kernel
theorem dL_sight_26 : decode cL_sight 26 = .ok (.iload_n 1, 1) := by decide +kernel
theorem dL_sight_27 : decode cL_sight 27 = .ok (.iload 5, 2) := by decide +kernel
theorem dL_sight_29 : decode cL_sight 29 = .ok (.iload 6, 2) := by decide +kernel
theorem dL_sight_31 : decode cL_sight 31 = .ok (.invokestatic 110, 3) := by decide +kernel
theorem dL_sight_34 : decode cL_sight 34 = .ok (.ladd, 1) := by decide +kernel
theorem dL_sight_35 : decode cL_sight 35 = .ok (.lstore_n 3, 1) := by decide +kernel
theorem dL_sight_36 : decode cL_sight 36 = .ok (.iinc 6 1, 3) := by decide +kernel
theorem dL_sight_39 : decode cL_sight 39 = .ok (.goto (-26), 3) := by decide +kernel
theorem dL_sight_42 : decode cL_sight 42 = .ok (.iload 5, 2) := by decide +kernel
theorem dL_sight_44 : decode cL_sight 44 = .ok (.iconst 1, 1) := by decide +kernel
theorem dL_sight_45 : decode cL_sight 45 = .ok (.iload_n 2, 1) := by decide +kernel
theorem dL_sight_46 : decode cL_sight 46 = .ok (.bipush 7, 2) := by decide +kernel
theorem dL_sight_48 : decode cL_sight 48 = .ok (.idiv, 1) := by decide +kernel
theorem dL_sight_49 : decode cL_sight 49 = .ok (.iadd, 1) := by decide +kernel
theorem dL_sight_50 : decode cL_sight 50 = .ok (.isub, 1) := by decide +kernel
theorem dL_sight_51 : decode cL_sight 51 = .ok (.istore 5, 2) := by decide +kernel
theorem dL_sight_53 : decode cL_sight 53 = .ok (.goto (-48), 3) := by decide +kernel
theorem dL_sight_56 : decode cL_sight 56 = .ok (.lload_n 3, 1) := by decide +kernel
theorem dL_sight_57 : decode cL_sight 57 = .ok (.lreturn, 1) := by decide +kernel
theorem dL_past_0 : decode cL_past 0 = .ok (.lconst 0, 1) := by decide +kernel
theorem dL_past_1 : decode cL_past 1 = .ok (.lstore_n 3, 1) := by decide +kernel
theorem dL_past_2 : decode cL_past 2 = .ok (.iload_n 2, 1) := by decide +kernel
theorem dL_past_3 : decode cL_past 3 = .ok (.istore 5, 2) := by decide +kernel
theorem dL_past_5 : decode cL_past 5 = .ok (.iload 5, 2) := by decide +kernel
theorem dL_past_7 : decode cL_past 7 = .ok (.ifCond .lt 59, 3) := by decide +kernel
theorem dL_past_10 : decode cL_past 10 = .ok (.iconst 0, 1) := by decide +kernel
theorem dL_past_11 : decode cL_past 11 = .ok (.istore 6, 2) := by decide +kernel
theorem dL_past_13 : decode cL_past 13 = .ok (.iload 6, 2) := by decide +kernel
theorem dL_past_15 : decode cL_past 15 = .ok (.bipush 12, 2) := by decide +kernel
theorem dL_past_17 : decode cL_past 17 = .ok (.if_icmp .ge 35, 3) := by decide +kernel
theorem dL_past_20 : decode cL_past 20 = .ok (.ldc2_w 108, 3) := by decide +kernel
theorem dL_past_23 : decode cL_past 23 = .ok (.lload_n 3, 1) := by decide +kernel
theorem dL_past_24 : decode cL_past 24 = .ok (.lmul, 1) := by decide +kernel
theorem dL_past_25 : decode cL_past 25 = .ok (.iload 6, 2) := by decide +kernel
theorem dL_past_27 : decode cL_past 27 = .ok (.iconst 1, 1) := by decide +kernel
theorem dL_past_28 : decode cL_past 28 = .ok (.if_icmp .ne 7, 3) := by decide +kernel
theorem dL_past_31 : decode cL_past 31 = .ok (.lconst 0, 1) := by decide +kernel
theorem dL_past_32 : decode cL_past 32 = .ok (.goto 12, 3) := by decide +kernel
theorem dL_past_35 : decode cL_past 35 = .ok (.aload_n 0, 1) := by decide +kernel
theorem dL_past_36 : decode cL_past 36 = .ok (.iload_n 1, 1) := by decide +kernel
theorem dL_past_37 : decode cL_past 37 = .ok (.iload 5, 2) := by decide +kernel
theorem dL_past_39 : decode cL_past 39 = .ok (.iload 6, 2) := by decide +kernel
theorem dL_past_41 : decode cL_past 41 = .ok (.invokestatic 110, 3) := by decide +kernel
theorem dL_past_44 : decode cL_past 44 = .ok (.ladd, 1) := by decide +kernel
theorem dL_past_45 : decode cL_past 45 = .ok (.lstore_n 3, 1) := by decide +kernel
theorem dL_past_46 : decode cL_past 46 = .ok (.iinc 6 1, 3) := by decide +kernel
theorem dL_past_49 : decode cL_past 49 = .ok (.goto (-36), 3) := by decide +kernel
theorem dL_past_52 : decode cL_past 52 = .ok (.iload 5, 2) := by decide +kernel
theorem dL_past_54 : decode cL_past 54 = .ok (.iconst 1, 1) := by decide +kernel
theorem dL_past_55 : decode cL_past 55 = .ok (.iload_n 2, 1) := by decide +kernel
theorem dL_past_56 : decode cL_past 56 = .ok (.bipush 7, 2) := by decide +kernel
theorem dL_past_58 : decode cL_past 58 = .ok (.idiv, 1) := by decide +kernel
theorem dL_past_59 : decode cL_past 59 = .ok (.iadd, 1) := by decide +kernel
theorem dL_past_60 : decode cL_past 60 = .ok (.isub, 1) := by decide +kernel
theorem dL_past_61 : decode cL_past 61 = .ok (.istore 5, 2) := by decide +kernel
theorem dL_past_63 : decode cL_past 63 = .ok (.goto (-58), 3) := by decide +kernel
theorem dL_past_66 : decode cL_past 66 = .ok (.lload_n 3, 1) := by decide +kernel
theorem dL_past_67 : decode cL_past 67 = .ok (.lreturn, 1) := by decide +kernel
theorem dL_all_0 : decode cL_all 0 = .ok (.aload_n 0, 1) := by decide +kernel
theorem dL_all_1 : decode cL_all 1 = .ok (.invokevirtual 116, 3) := by decide +kernel
theorem dL_all_4 : decode cL_all 4 = .ok (.i2l, 1) := by decide +kernel
theorem dL_all_5 : decode cL_all 5 = .ok (.lstore_n 1, 1) := by decide +kernel
theorem dL_all_6 : decode cL_all 6 = .ok (.iconst 0, 1) := by decide +kernel
theorem dL_all_7 : decode cL_all 7 = .ok (.istore_n 3, 1) := by decide +kernel
theorem dL_all_8 : decode cL_all 8 = .ok (.iload_n 3, 1) := by decide +kernel
theorem dL_all_9 : decode cL_all 9 = .ok (.aload_n 0, 1) := by decide +kernel
theorem dL_all_10 : decode cL_all 10 = .ok (.invokevirtual 116, 3) := by decide +kernel
theorem dL_all_13 : decode cL_all 13 = .ok (.if_icmp .ge 44, 3) := by decide +kernel
theorem dL_all_16 : decode cL_all 16 = .ok (.ldc2_w 120, 3) := by decide +kernel
theorem dL_all_19 : decode cL_all 19 = .ok (.lload_n 1, 1) := by decide +kernel
theorem dL_all_20 : decode cL_all 20 = .ok (.lmul, 1) := by decide +kernel
theorem dL_all_21 : decode cL_all 21 = .ok (.aload_n 0, 1) := by decide +kernel
theorem dL_all_22 : decode cL_all 22 = .ok (.iload_n 3, 1) := by decide +kernel
theorem dL_all_23 : decode cL_all 23 = .ok (.invokevirtual 44, 3) := by decide +kernel
theorem dL_all_26 : decode cL_all 26 = .ok (.i2l, 1) := by decide +kernel
theorem dL_all_27 : decode cL_all 27 = .ok (.ladd, 1) := by decide +kernel
theorem dL_all_28 : decode cL_all 28 = .ok (.ldc2_w 122, 3) := by decide +kernel
theorem dL_all_31 : decode cL_all 31 = .ok (.aload_n 0, 1) := by decide +kernel
theorem dL_all_32 : decode cL_all 32 = .ok (.iload_n 3, 1) := by decide +kernel
theorem dL_all_33 : decode cL_all 33 = .ok (.invokevirtual 47, 3) := by decide +kernel
theorem dL_all_36 : decode cL_all 36 = .ok (.i2l, 1) := by decide +kernel
theorem dL_all_37 : decode cL_all 37 = .ok (.lmul, 1) := by decide +kernel
theorem dL_all_38 : decode cL_all 38 = .ok (.ladd, 1) := by decide +kernel
theorem dL_all_39 : decode cL_all 39 = .ok (.ldc2_w 124, 3) := by decide +kernel
theorem dL_all_42 : decode cL_all 42 = .ok (.aload_n 0, 1) := by decide +kernel
theorem dL_all_43 : decode cL_all 43 = .ok (.iload_n 3, 1) := by decide +kernel
theorem dL_all_44 : decode cL_all 44 = .ok (.invokevirtual 50, 3) := by decide +kernel
theorem dL_all_47 : decode cL_all 47 = .ok (.i2l, 1) := by decide +kernel
theorem dL_all_48 : decode cL_all 48 = .ok (.lmul, 1) := by decide +kernel
theorem dL_all_49 : decode cL_all 49 = .ok (.ladd, 1) := by decide +kernel
theorem dL_all_50 : decode cL_all 50 = .ok (.lstore_n 1, 1) := by decide +kernel
theorem dL_all_51 : decode cL_all 51 = .ok (.iinc 3 1, 3) := by decide +kernel
theorem dL_all_54 : decode cL_all 54 = .ok (.goto (-46), 3) := by decide +kernel
theorem dL_all_57 : decode cL_all 57 = .ok (.iconst 0, 1) := by decide +kernel
theorem dL_all_58 : decode cL_all 58 = .ok (.istore_n 3, 1) := by decide +kernel
theorem dL_all_59 : decode cL_all 59 = .ok (.iload_n 3, 1) := by decide +kernel
theorem dL_all_60 : decode cL_all 60 = .ok (.bipush 6, 2) := by decide +kernel
theorem dL_all_62 : decode cL_all 62 = .ok (.if_icmp .ge 24, 3) := by decide +kernel
theorem dL_all_65 : decode cL_all 65 = .ok (.ldc2_w 126, 3) := by decide +kernel
theorem dL_all_68 : decode cL_all 68 = .ok (.lload_n 1, 1) := by decide +kernel
theorem dL_all_69 : decode cL_all 69 = .ok (.lmul, 1) := by decide +kernel
theorem dL_all_70 : decode cL_all 70 = .ok (.aload_n 0, 1) := by decide +kernel
theorem dL_all_71 : decode cL_all 71 = .ok (.iload_n 3, 1) := by decide +kernel
theorem dL_all_72 : decode cL_all 72 = .ok (.sipush 364, 3) := by decide +kernel
theorem dL_all_75 : decode cL_all 75 = .ok (.invokestatic 128, 3) := by decide +kernel
