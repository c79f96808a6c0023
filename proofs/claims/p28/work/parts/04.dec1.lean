theorem dX0_init_0 : decode cX0_init 0 = .ok (.aload_n 0, 1) := by decide +kernel
theorem dX0_init_1 : decode cX0_init 1 = .ok (.invokespecial 1, 3) := by decide +kernel
theorem dX0_init_4 : decode cX0_init 4 = .ok (.return_, 1) := by decide +kernel
theorem dX0_empty_0 : decode cX0_empty 0 = .ok (.aload_n 0, 1) := by decide +kernel
theorem dX0_empty_1 : decode cX0_empty 1 = .ok (.aconst_null, 1) := by decide +kernel
theorem dX0_empty_2 : decode cX0_empty 2 = .ok (.putfield 7, 3) := by decide +kernel
theorem dX0_empty_5 : decode cX0_empty 5 = .ok (.aload_n 0, 1) := by decide +kernel
theorem dX0_empty_6 : decode cX0_empty 6 = .ok (.aconst_null, 1) := by decide +kernel
theorem dX0_empty_7 : decode cX0_empty 7 = .ok (.putfield 13, 3) := by decide +kernel
theorem dX0_empty_10 : decode cX0_empty 10 = .ok (.return_, 1) := by decide +kernel
theorem dX0_bring_0 : decode cX0_bring 0 = .ok (.aload_n 1, 1) := by decide +kernel
theorem dX0_bring_1 : decode cX0_bring 1 = .ok (.getfield 16, 3) := by decide +kernel
theorem dX0_bring_4 : decode cX0_bring 4 = .ok (.astore_n 2, 1) := by decide +kernel
theorem dX0_bring_5 : decode cX0_bring 5 = .ok (.aload_n 2, 1) := by decide +kernel
theorem dX0_bring_6 : decode cX0_bring 6 = .ok (.aload_n 1, 1) := by decide +kernel
theorem dX0_bring_7 : decode cX0_bring 7 = .ok (.getfield 21, 3) := by decide +kernel
theorem dX0_bring_10 : decode cX0_bring 10 = .ok (.aload_n 1, 1) := by decide +kernel
theorem dX0_bring_11 : decode cX0_bring 11 = .ok (.getfield 25, 3) := by decide +kernel
theorem dX0_bring_14 : decode cX0_bring 14 = .ok (.i2l, 1) := by decide +kernel
theorem dX0_bring_15 : decode cX0_bring 15 = .ok (.aconst_null, 1) := by decide +kernel
theorem dX0_bring_16 : decode cX0_bring 16 = .ok (.invokevirtual 28, 3) := by decide +kernel
theorem dX0_bring_19 : decode cX0_bring 19 = .ok (.aload_n 0, 1) := by decide +kernel
theorem dX0_bring_20 : decode cX0_bring 20 = .ok (.getfield 13, 3) := by decide +kernel
theorem dX0_bring_23 : decode cX0_bring 23 = .ok (.ifnonnull 11, 3) := by decide +kernel
theorem dX0_bring_26 : decode cX0_bring 26 = .ok (.aload_n 0, 1) := by decide +kernel
theorem dX0_bring_27 : decode cX0_bring 27 = .ok (.aload_n 2, 1) := by decide +kernel
theorem dX0_bring_28 : decode cX0_bring 28 = .ok (.putfield 7, 3) := by decide +kernel
theorem dX0_bring_31 : decode cX0_bring 31 = .ok (.goto 11, 3) := by decide +kernel
theorem dX0_bring_34 : decode cX0_bring 34 = .ok (.aload_n 0, 1) := by decide +kernel
theorem dX0_bring_35 : decode cX0_bring 35 = .ok (.getfield 13, 3) := by decide +kernel
theorem dX0_bring_38 : decode cX0_bring 38 = .ok (.aload_n 2, 1) := by decide +kernel
theorem dX0_bring_39 : decode cX0_bring 39 = .ok (.putfield 34, 3) := by decide +kernel
theorem dX0_bring_42 : decode cX0_bring 42 = .ok (.aload_n 0, 1) := by decide +kernel
theorem dX0_bring_43 : decode cX0_bring 43 = .ok (.aload_n 2, 1) := by decide +kernel
theorem dX0_bring_44 : decode cX0_bring 44 = .ok (.putfield 13, 3) := by decide +kernel
theorem dX0_bring_47 : decode cX0_bring 47 = .ok (.return_, 1) := by decide +kernel
theorem dX0_take_0 : decode cX0_take 0 = .ok (.lconst 0, 1) := by decide +kernel
theorem dX0_take_1 : decode cX0_take 1 = .ok (.lstore_n 2, 1) := by decide +kernel
theorem dX0_take_2 : decode cX0_take 2 = .ok (.iload_n 1, 1) := by decide +kernel
theorem dX0_take_3 : decode cX0_take 3 = .ok (.istore 4, 2) := by decide +kernel
theorem dX0_take_5 : decode cX0_take 5 = .ok (.aload_n 0, 1) := by decide +kernel
theorem dX0_take_6 : decode cX0_take 6 = .ok (.getfield 7, 3) := by decide +kernel
theorem dX0_take_9 : decode cX0_take 9 = .ok (.astore 5, 2) := by decide +kernel
theorem dX0_take_11 : decode cX0_take 11 = .ok (.aload 5, 2) := by decide +kernel
theorem dX0_take_13 : decode cX0_take 13 = .ok (.ifnull 69, 3) := by decide +kernel
theorem dX0_take_16 : decode cX0_take 16 = .ok (.iload 4, 2) := by decide +kernel
theorem dX0_take_18 : decode cX0_take 18 = .ok (.ifCond .le 64, 3) := by decide +kernel
theorem dX0_take_21 : decode cX0_take 21 = .ok (.iload 4, 2) := by decide +kernel
theorem dX0_take_23 : decode cX0_take 23 = .ok (.aload 5, 2) := by decide +kernel
theorem dX0_take_25 : decode cX0_take 25 = .ok (.getfield 37, 3) := by decide +kernel
theorem dX0_take_28 : decode cX0_take 28 = .ok (.invokestatic 40, 3) := by decide +kernel
theorem dX0_take_31 : decode cX0_take 31 = .ok (.istore 6, 2) := by decide +kernel
theorem dX0_take_33 : decode cX0_take 33 = .ok (.lload_n 2, 1) := by decide +kernel
theorem dX0_take_34 : decode cX0_take 34 = .ok (.aload 5, 2) := by decide +kernel
theorem dX0_take_36 : decode cX0_take 36 = .ok (.iload 6, 2) := by decide +kernel
theorem dX0_take_38 : decode cX0_take 38 = .ok (.invokevirtual 46, 3) := by decide +kernel
theorem dX0_take_41 : decode cX0_take 41 = .ok (.ladd, 1) := by decide +kernel
theorem dX0_take_42 : decode cX0_take 42 = .ok (.lstore_n 2, 1) := by decide +kernel
theorem dX0_take_43 : decode cX0_take 43 = .ok (.iload 4, 2) := by decide +kernel
theorem dX0_take_45 : decode cX0_take 45 = .ok (.iload 6, 2) := by decide +kernel
theorem dX0_take_47 : decode cX0_take 47 = .ok (.isub, 1) := by decide +kernel
theorem dX0_take_48 : decode cX0_take 48 = .ok (.istore 4, 2) := by decide +kernel
theorem dX0_take_50 : decode cX0_take 50 = .ok (.aload_n 0, 1) := by decide +kernel
theorem dX0_take_51 : decode cX0_take 51 = .ok (.aload 5, 2) := by decide +kernel
theorem dX0_take_53 : decode cX0_take 53 = .ok (.getfield 37, 3) := by decide +kernel
theorem dX0_take_56 : decode cX0_take 56 = .ok (.ifCond .le 8, 3) := by decide +kernel
theorem dX0_take_59 : decode cX0_take 59 = .ok (.aload 5, 2) := by decide +kernel
theorem dX0_take_61 : decode cX0_take 61 = .ok (.goto 8, 3) := by decide +kernel
theorem dX0_take_64 : decode cX0_take 64 = .ok (.aload 5, 2) := by decide +kernel
theorem dX0_take_66 : decode cX0_take 66 = .ok (.getfield 34, 3) := by decide +kernel
theorem dX0_take_69 : decode cX0_take 69 = .ok (.putfield 7, 3) := by decide +kernel
theorem dX0_take_72 : decode cX0_take 72 = .ok (.aload 5, 2) := by decide +kernel
theorem dX0_take_74 : decode cX0_take 74 = .ok (.getfield 34, 3) := by decide +kernel
theorem dX0_take_77 : decode cX0_take 77 = .ok (.astore 5, 2) := by decide +kernel
theorem dX0_take_79 : decode cX0_take 79 = .ok (.goto (-68), 3) := by decide +kernel
theorem dX0_take_82 : decode cX0_take 82 = .ok (.aload_n 0, 1) := by decide +kernel
theorem dX0_take_83 : decode cX0_take 83 = .ok (.getfield 7, 3) := by decide +kernel
theorem dX0_take_86 : decode cX0_take 86 = .ok (.ifnonnull 8, 3) := by decide +kernel
theorem dX0_take_89 : decode cX0_take 89 = .ok (.aload_n 0, 1) := by decide +kernel
theorem dX0_take_90 : decode cX0_take 90 = .ok (.aconst_null, 1) := by decide +kernel
theorem dX0_take_91 : decode cX0_take 91 = .ok (.putfield 13, 3) := by decide +kernel
theorem dX0_take_94 : decode cX0_take 94 = .ok (.lload_n 2, 1) := by decide +kernel
theorem dX0_take_95 : decode cX0_take 95 = .ok (.lreturn, 1) := by decide +kernel
theorem dX0_bringBack_0 : decode cX0_bringBack 0 = .ok (.aload_n 1, 1) := by decide +kernel
theorem dX0_bringBack_1 : decode cX0_bringBack 1 = .ok (.getfield 16, 3) := by decide +kernel
theorem dX0_bringBack_4 : decode cX0_bringBack 4 = .ok (.astore_n 2, 1) := by decide +kernel
theorem dX0_bringBack_5 : decode cX0_bringBack 5 = .ok (.aload_n 2, 1) := by decide +kernel
theorem dX0_bringBack_6 : decode cX0_bringBack 6 = .ok (.aload_n 1, 1) := by decide +kernel
theorem dX0_bringBack_7 : decode cX0_bringBack 7 = .ok (.getfield 21, 3) := by decide +kernel
theorem dX0_bringBack_10 : decode cX0_bringBack 10 = .ok (.aload_n 1, 1) := by decide +kernel
theorem dX0_bringBack_11 : decode cX0_bringBack 11 = .ok (.getfield 25, 3) := by decide +kernel
theorem dX0_bringBack_14 : decode cX0_bringBack 14 = .ok (.i2l, 1) := by decide +kernel
theorem dX0_bringBack_15 : decode cX0_bringBack 15 = .ok (.aload_n 0, 1) := by decide +kernel
theorem dX0_bringBack_16 : decode cX0_bringBack 16 = .ok (.getfield 7, 3) := by decide +kernel
theorem dX0_bringBack_19 : decode cX0_bringBack 19 = .ok (.invokevirtual 28, 3) := by decide +kernel
theorem dX0_bringBack_22 : decode cX0_bringBack 22 = .ok (.aload_n 0, 1) := by decide +kernel
theorem dX0_bringBack_23 : decode cX0_bringBack 23 = .ok (.aload_n 2, 1) := by decide +kernel
theorem dX0_bringBack_24 : decode cX0_bringBack 24 = .ok (.putfield 7, 3) := by decide +kernel
theorem dX0_bringBack_27 : decode cX0_bringBack 27 = .ok (.aload_n 0, 1) := by decide +kernel
theorem dX0_bringBack_28 : decode cX0_bringBack 28 = .ok (.getfield 13, 3) := by decide +kernel
theorem dX0_bringBack_31 : decode cX0_bringBack 31 = .ok (.ifnonnull 8, 3) := by decide +kernel
theorem dX0_bringBack_34 : decode cX0_bringBack 34 = .ok (.aload_n 0, 1) := by decide +kernel
theorem dX0_bringBack_35 : decode cX0_bringBack 35 = .ok (.aload_n 2, 1) := by decide +kernel
theorem dX0_bringBack_36 : decode cX0_bringBack 36 = .ok (.putfield 13, 3) := by decide +kernel
theorem dX0_bringBack_39 : decode cX0_bringBack 39 = .ok (.return_, 1) := by decide +kernel
theorem dX0_absorb_0 : decode cX0_absorb 0 = .ok (.aload_n 1, 1) := by decide +kernel
theorem dX0_absorb_1 : decode cX0_absorb 1 = .ok (.getfield 16, 3) := by decide +kernel
theorem dX0_absorb_4 : decode cX0_absorb 4 = .ok (.astore_n 3, 1) := by decide +kernel
theorem dX0_absorb_5 : decode cX0_absorb 5 = .ok (.aload_n 1, 1) := by decide +kernel
theorem dX0_absorb_6 : decode cX0_absorb 6 = .ok (.iload_n 2, 1) := by decide +kernel
theorem dX0_absorb_7 : decode cX0_absorb 7 = .ok (.aload_n 3, 1) := by decide +kernel
theorem dX0_absorb_8 : decode cX0_absorb 8 = .ok (.getfield 37, 3) := by decide +kernel
theorem dX0_absorb_11 : decode cX0_absorb 11 = .ok (.invokestatic 50, 3) := by decide +kernel
theorem dX0_absorb_14 : decode cX0_absorb 14 = .ok (.lstore 4, 2) := by decide +kernel
theorem dX0_absorb_16 : decode cX0_absorb 16 = .ok (.aload_n 3, 1) := by decide +kernel
theorem dX0_absorb_17 : decode cX0_absorb 17 = .ok (.dup, 1) := by decide +kernel
theorem dX0_absorb_18 : decode cX0_absorb 18 = .ok (.getfield 54, 3) := by decide +kernel
theorem dX0_absorb_21 : decode cX0_absorb 21 = .ok (.lload 4, 2) := by decide +kernel
theorem dX0_absorb_23 : decode cX0_absorb 23 = .ok (.ladd, 1) := by decide +kernel
theorem dX0_absorb_24 : decode cX0_absorb 24 = .ok (.putfield 54, 3) := by decide +kernel
theorem dX0_absorb_27 : decode cX0_absorb 27 = .ok (.lload 4, 2) := by decide +kernel
theorem dX0_absorb_29 : decode cX0_absorb 29 = .ok (.lreturn, 1) := by decide +kernel
theorem dX0_worth_0 : decode cX0_worth 0 = .ok (.lconst 0, 1) := by decide +kernel
theorem dX0_worth_1 : decode cX0_worth 1 = .ok (.lstore_n 1, 1) := by decide +kernel
theorem dX0_worth_2 : decode cX0_worth 2 = .ok (.aload_n 0, 1) := by decide +kernel
theorem dX0_worth_3 : decode cX0_worth 3 = .ok (.getfield 7, 3) := by decide +kernel
theorem dX0_worth_6 : decode cX0_worth 6 = .ok (.astore_n 3, 1) := by decide +kernel
theorem dX0_worth_7 : decode cX0_worth 7 = .ok (.aload_n 3, 1) := by decide +kernel
theorem dX0_worth_8 : decode cX0_worth 8 = .ok (.ifnull 18, 3) := by decide +kernel
theorem dX0_worth_11 : decode cX0_worth 11 = .ok (.lload_n 1, 1) := by decide +kernel
theorem dX0_worth_12 : decode cX0_worth 12 = .ok (.aload_n 3, 1) := by decide +kernel
theorem dX0_worth_13 : decode cX0_worth 13 = .ok (.getfield 54, 3) := by decide +kernel
theorem dX0_worth_16 : decode cX0_worth 16 = .ok (.ladd, 1) := by decide +kernel
theorem dX0_worth_17 : decode cX0_worth 17 = .ok (.lstore_n 1, 1) := by decide +kernel
theorem dX0_worth_18 : decode cX0_worth 18 = .ok (.aload_n 3, 1) := by decide +kernel
theorem dX0_worth_19 : decode cX0_worth 19 = .ok (.getfield 34, 3) := by decide +kernel
theorem dX0_worth_22 : decode cX0_worth 22 = .ok (.astore_n 3, 1) := by decide +kernel
theorem dX0_worth_23 : decode cX0_worth 23 = .ok (.goto (-16), 3) := by decide +kernel
theorem dX0_worth_26 : decode cX0_worth 26 = .ok (.lload_n 1, 1) := by decide +kernel
theorem dX0_worth_27 : decode cX0_worth 27 = .ok (.lreturn, 1) := by decide +kernel
theorem dX0_length_0 : decode cX0_length 0 = .ok (.iconst 0, 1) := by decide +kernel
theorem dX0_length_1 : decode cX0_length 1 = .ok (.istore_n 1, 1) := by decide +kernel
theorem dX0_length_2 : decode cX0_length 2 = .ok (.aload_n 0, 1) := by decide +kernel
theorem dX0_length_3 : decode cX0_length 3 = .ok (.getfield 7, 3) := by decide +kernel
theorem dX0_length_6 : decode cX0_length 6 = .ok (.astore_n 2, 1) := by decide +kernel
theorem dX0_length_7 : decode cX0_length 7 = .ok (.aload_n 2, 1) := by decide +kernel
theorem dX0_length_8 : decode cX0_length 8 = .ok (.ifnull 14, 3) := by decide +kernel
theorem dX0_length_11 : decode cX0_length 11 = .ok (.iinc 1 1, 3) := by decide +kernel
theorem dX0_length_14 : decode cX0_length 14 = .ok (.aload_n 2, 1) := by decide +kernel
theorem dX0_length_15 : decode cX0_length 15 = .ok (.getfield 34, 3) := by decide +kernel
theorem dX0_length_18 : decode cX0_length 18 = .ok (.astore_n 2, 1) := by decide +kernel
theorem dX0_length_19 : decode cX0_length 19 = .ok (.goto (-12), 3) := by decide +kernel
theorem dX0_length_22 : decode cX0_length 22 = .ok (.iload_n 1, 1) := by decide +kernel
theorem dX0_length_23 : decode cX0_length 23 = .ok (.ireturn, 1) := by decide +kernel
theorem dX0_layerAt_0 : decode cX0_layerAt 0 = .ok (.iload_n 1, 1) := by decide +kernel
theorem dX0_layerAt_1 : decode cX0_layerAt 1 = .ok (.ifCond .ge 7, 3) := by decide +kernel
theorem dX0_layerAt_4 : decode cX0_layerAt 4 = .ok (.aconst_null, 1) := by decide +kernel
theorem dX0_layerAt_5 : decode cX0_layerAt 5 = .ok (.goto 7, 3) := by decide +kernel
theorem dX0_layerAt_8 : decode cX0_layerAt 8 = .ok (.aload_n 0, 1) := by decide +kernel
theorem dX0_layerAt_9 : decode cX0_layerAt 9 = .ok (.getfield 7, 3) := by decide +kernel
theorem dX0_layerAt_12 : decode cX0_layerAt 12 = .ok (.astore_n 2, 1) := by decide +kernel
theorem dX0_layerAt_13 : decode cX0_layerAt 13 = .ok (.iconst 0, 1) := by decide +kernel
theorem dX0_layerAt_14 : decode cX0_layerAt 14 = .ok (.istore_n 3, 1) := by decide +kernel
theorem dX0_layerAt_15 : decode cX0_layerAt 15 = .ok (.iload_n 3, 1) := by decide +kernel
theorem dX0_layerAt_16 : decode cX0_layerAt 16 = .ok (.iload_n 1, 1) := by decide +kernel
theorem dX0_layerAt_17 : decode cX0_layerAt 17 = .ok (.if_icmp .ge 18, 3) := by decide +kernel
theorem dX0_layerAt_20 : decode cX0_layerAt 20 = .ok (.aload_n 2, 1) := by decide +kernel
theorem dX0_layerAt_21 : decode cX0_layerAt 21 = .ok (.ifnull 14, 3) := by decide +kernel
theorem dX0_layerAt_24 : decode cX0_layerAt 24 = .ok (.aload_n 2, 1) := by decide +kernel
theorem dX0_layerAt_25 : decode cX0_layerAt 25 = .ok (.getfield 34, 3) := by decide +kernel
theorem dX0_layerAt_28 : decode cX0_layerAt 28 = .ok (.astore_n 2, 1) := by decide +kernel
theorem dX0_layerAt_29 : decode cX0_layerAt 29 = .ok (.iinc 3 1, 3) := by decide +kernel
theorem dX0_layerAt_32 : decode cX0_layerAt 32 = .ok (.goto (-17), 3) := by decide +kernel
theorem dX0_layerAt_35 : decode cX0_layerAt 35 = .ok (.aload_n 2, 1) := by decide +kernel
theorem dX0_layerAt_36 : decode cX0_layerAt 36 = .ok (.areturn, 1) := by decide +kernel
theorem dX1_init_0 : decode cX1_init 0 = .ok (.aload_n 0, 1) := by decide +kernel
theorem dX1_init_1 : decode cX1_init 1 = .ok (.invokespecial 1, 3) := by decide +kernel
theorem dX1_init_4 : decode cX1_init 4 = .ok (.aload_n 0, 1) := by decide +kernel
theorem dX1_init_5 : decode cX1_init 5 = .ok (.iload_n 1, 1) := by decide +kernel
theorem dX1_init_6 : decode cX1_init 6 = .ok (.putfield 7, 3) := by decide +kernel
theorem dX1_init_9 : decode cX1_init 9 = .ok (.return_, 1) := by decide +kernel
theorem dX1_fill_0 : decode cX1_fill 0 = .ok (.aload_n 0, 1) := by decide +kernel
theorem dX1_fill_1 : decode cX1_fill 1 = .ok (.iload_n 1, 1) := by decide +kernel
theorem dX1_fill_2 : decode cX1_fill 2 = .ok (.putfield 13, 3) := by decide +kernel
theorem dX1_fill_5 : decode cX1_fill 5 = .ok (.aload_n 0, 1) := by decide +kernel
theorem dX1_fill_6 : decode cX1_fill 6 = .ok (.lload_n 2, 1) := by decide +kernel
theorem dX1_fill_7 : decode cX1_fill 7 = .ok (.putfield 16, 3) := by decide +kernel
theorem dX1_fill_10 : decode cX1_fill 10 = .ok (.aload_n 0, 1) := by decide +kernel
theorem dX1_fill_11 : decode cX1_fill 11 = .ok (.aload 4, 2) := by decide +kernel
theorem dX1_fill_13 : decode cX1_fill 13 = .ok (.putfield 20, 3) := by decide +kernel
theorem dX1_fill_16 : decode cX1_fill 16 = .ok (.return_, 1) := by decide +kernel
theorem dX1_take_0 : decode cX1_take 0 = .ok (.aload_n 0, 1) := by decide +kernel
theorem dX1_take_1 : decode cX1_take 1 = .ok (.getfield 13, 3) := by decide +kernel
theorem dX1_take_4 : decode cX1_take 4 = .ok (.ifCond .le 19, 3) := by decide +kernel
theorem dX1_take_7 : decode cX1_take 7 = .ok (.aload_n 0, 1) := by decide +kernel
theorem dX1_take_8 : decode cX1_take 8 = .ok (.getfield 16, 3) := by decide +kernel
theorem dX1_take_11 : decode cX1_take 11 = .ok (.iload_n 1, 1) := by decide +kernel
theorem dX1_take_12 : decode cX1_take 12 = .ok (.i2l, 1) := by decide +kernel
theorem dX1_take_13 : decode cX1_take 13 = .ok (.lmul, 1) := by decide +kernel
theorem dX1_take_14 : decode cX1_take 14 = .ok (.aload_n 0, 1) := by decide +kernel
theorem dX1_take_15 : decode cX1_take 15 = .ok (.getfield 13, 3) := by decide +kernel
theorem dX1_take_18 : decode cX1_take 18 = .ok (.i2l, 1) := by decide +kernel
theorem dX1_take_19 : decode cX1_take 19 = .ok (.ldiv, 1) := by decide +kernel
theorem dX1_take_20 : decode cX1_take 20 = .ok (.goto 4, 3) := by decide +kernel
theorem dX1_take_23 : decode cX1_take 23 = .ok (.lconst 0, 1) := by decide +kernel
theorem dX1_take_24 : decode cX1_take 24 = .ok (.lstore_n 2, 1) := by decide +kernel
theorem dX1_take_25 : decode cX1_take 25 = .ok (.aload_n 0, 1) := by decide +kernel
theorem dX1_take_26 : decode cX1_take 26 = .ok (.dup, 1) := by decide +kernel
theorem dX1_take_27 : decode cX1_take 27 = .ok (.getfield 13, 3) := by decide +kernel
theorem dX1_take_30 : decode cX1_take 30 = .ok (.iload_n 1, 1) := by decide +kernel
theorem dX1_take_31 : decode cX1_take 31 = .ok (.isub, 1) := by decide +kernel
theorem dX1_take_32 : decode cX1_take 32 = .ok (.putfield 13, 3) := by decide +kernel
theorem dX1_take_35 : decode cX1_take 35 = .ok (.aload_n 0, 1) := by decide +kernel
theorem dX1_take_36 : decode cX1_take 36 = .ok (.dup, 1) := by decide +kernel
theorem dX1_take_37 : decode cX1_take 37 = .ok (.getfield 16, 3) := by decide +kernel
theorem dX1_take_40 : decode cX1_take 40 = .ok (.lload_n 2, 1) := by decide +kernel
theorem dX1_take_41 : decode cX1_take 41 = .ok (.lsub, 1) := by decide +kernel
theorem dX1_take_42 : decode cX1_take 42 = .ok (.putfield 16, 3) := by decide +kernel
theorem dX1_take_45 : decode cX1_take 45 = .ok (.lload_n 2, 1) := by decide +kernel
theorem dX1_take_46 : decode cX1_take 46 = .ok (.lreturn, 1) := by decide +kernel
theorem dX2_init_0 : decode cX2_init 0 = .ok (.aload_n 0, 1) := by decide +kernel
theorem dX2_init_1 : decode cX2_init 1 = .ok (.invokespecial 1, 3) := by decide +kernel
theorem dX2_init_4 : decode cX2_init 4 = .ok (.return_, 1) := by decide +kernel
theorem dX2_insert_0 : decode cX2_insert 0 = .ok (.aconst_null, 1) := by decide +kernel
theorem dX2_insert_1 : decode cX2_insert 1 = .ok (.astore_n 2, 1) := by decide +kernel
theorem dX2_insert_2 : decode cX2_insert 2 = .ok (.aload_n 0, 1) := by decide +kernel
theorem dX2_insert_3 : decode cX2_insert 3 = .ok (.getfield 7, 3) := by decide +kernel
theorem dX2_insert_6 : decode cX2_insert 6 = .ok (.astore_n 3, 1) := by decide +kernel
theorem dX2_insert_7 : decode cX2_insert 7 = .ok (.aload_n 3, 1) := by decide +kernel
theorem dX2_insert_8 : decode cX2_insert 8 = .ok (.ifnull 24, 3) := by decide +kernel
theorem dX2_insert_11 : decode cX2_insert 11 = .ok (.aload_n 3, 1) := by decide +kernel
theorem dX2_insert_12 : decode cX2_insert 12 = .ok (.getfield 13, 3) := by decide +kernel
theorem dX2_insert_15 : decode cX2_insert 15 = .ok (.aload_n 1, 1) := by decide +kernel
theorem dX2_insert_16 : decode cX2_insert 16 = .ok (.getfield 13, 3) := by decide +kernel
theorem dX2_insert_19 : decode cX2_insert 19 = .ok (.if_icmp .gt 13, 3) := by decide +kernel
theorem dX2_insert_22 : decode cX2_insert 22 = .ok (.aload_n 3, 1) := by decide +kernel
theorem dX2_insert_23 : decode cX2_insert 23 = .ok (.astore_n 2, 1) := by decide +kernel
theorem dX2_insert_24 : decode cX2_insert 24 = .ok (.aload_n 3, 1) := by decide +kernel
theorem dX2_insert_25 : decode cX2_insert 25 = .ok (.getfield 19, 3) := by decide +kernel
theorem dX2_insert_28 : decode cX2_insert 28 = .ok (.astore_n 3, 1) := by decide +kernel
theorem dX2_insert_29 : decode cX2_insert 29 = .ok (.goto (-22), 3) := by decide +kernel
theorem dX2_insert_32 : decode cX2_insert 32 = .ok (.aload_n 2, 1) := by decide +kernel
theorem dX2_insert_33 : decode cX2_insert 33 = .ok (.ifnonnull 19, 3) := by decide +kernel
theorem dX2_insert_36 : decode cX2_insert 36 = .ok (.aload_n 1, 1) := by decide +kernel
theorem dX2_insert_37 : decode cX2_insert 37 = .ok (.aload_n 0, 1) := by decide +kernel
theorem dX2_insert_38 : decode cX2_insert 38 = .ok (.getfield 7, 3) := by decide +kernel
theorem dX2_insert_41 : decode cX2_insert 41 = .ok (.putfield 19, 3) := by decide +kernel
theorem dX2_insert_44 : decode cX2_insert 44 = .ok (.aload_n 0, 1) := by decide +kernel
theorem dX2_insert_45 : decode cX2_insert 45 = .ok (.aload_n 1, 1) := by decide +kernel
theorem dX2_insert_46 : decode cX2_insert 46 = .ok (.putfield 7, 3) := by decide +kernel
theorem dX2_insert_49 : decode cX2_insert 49 = .ok (.goto 16, 3) := by decide +kernel
theorem dX2_insert_52 : decode cX2_insert 52 = .ok (.aload_n 1, 1) := by decide +kernel
theorem dX2_insert_53 : decode cX2_insert 53 = .ok (.aload_n 2, 1) := by decide +kernel
theorem dX2_insert_54 : decode cX2_insert 54 = .ok (.getfield 19, 3) := by decide +kernel
theorem dX2_insert_57 : decode cX2_insert 57 = .ok (.putfield 19, 3) := by decide +kernel
theorem dX2_insert_60 : decode cX2_insert 60 = .ok (.aload_n 2, 1) := by decide +kernel
theorem dX2_insert_61 : decode cX2_insert 61 = .ok (.aload_n 1, 1) := by decide +kernel
theorem dX2_insert_62 : decode cX2_insert 62 = .ok (.putfield 19, 3) := by decide +kernel
theorem dX2_insert_65 : decode cX2_insert 65 = .ok (.aload_n 0, 1) := by decide +kernel
theorem dX2_insert_66 : decode cX2_insert 66 = .ok (.dup, 1) := by decide +kernel
theorem dX2_insert_67 : decode cX2_insert 67 = .ok (.getfield 22, 3) := by decide +kernel
theorem dX2_insert_70 : decode cX2_insert 70 = .ok (.iconst 1, 1) := by decide +kernel
theorem dX2_insert_71 : decode cX2_insert 71 = .ok (.iadd, 1) := by decide +kernel
theorem dX2_insert_72 : decode cX2_insert 72 = .ok (.putfield 22, 3) := by decide +kernel
theorem dX2_insert_75 : decode cX2_insert 75 = .ok (.return_, 1) := by decide +kernel
theorem dX2_remove_0 : decode cX2_remove 0 = .ok (.aconst_null, 1) := by decide +kernel
theorem dX2_remove_1 : decode cX2_remove 1 = .ok (.astore_n 2, 1) := by decide +kernel
theorem dX2_remove_2 : decode cX2_remove 2 = .ok (.aload_n 0, 1) := by decide +kernel
theorem dX2_remove_3 : decode cX2_remove 3 = .ok (.getfield 7, 3) := by decide +kernel
theorem dX2_remove_6 : decode cX2_remove 6 = .ok (.astore_n 3, 1) := by decide +kernel
theorem dX2_remove_7 : decode cX2_remove 7 = .ok (.aload_n 3, 1) := by decide +kernel
theorem dX2_remove_8 : decode cX2_remove 8 = .ok (.ifnull 18, 3) := by decide +kernel
theorem dX2_remove_11 : decode cX2_remove 11 = .ok (.aload_n 3, 1) := by decide +kernel
theorem dX2_remove_12 : decode cX2_remove 12 = .ok (.aload_n 1, 1) := by decide +kernel
theorem dX2_remove_13 : decode cX2_remove 13 = .ok (.if_acmp .eq 13, 3) := by decide +kernel
theorem dX2_remove_16 : decode cX2_remove 16 = .ok (.aload_n 3, 1) := by decide +kernel
theorem dX2_remove_17 : decode cX2_remove 17 = .ok (.astore_n 2, 1) := by decide +kernel
theorem dX2_remove_18 : decode cX2_remove 18 = .ok (.aload_n 3, 1) := by decide +kernel
theorem dX2_remove_19 : decode cX2_remove 19 = .ok (.getfield 19, 3) := by decide +kernel
theorem dX2_remove_22 : decode cX2_remove 22 = .ok (.astore_n 3, 1) := by decide +kernel
theorem dX2_remove_23 : decode cX2_remove 23 = .ok (.goto (-16), 3) := by decide +kernel
theorem dX2_remove_26 : decode cX2_remove 26 = .ok (.aload_n 2, 1) := by decide +kernel
theorem dX2_remove_27 : decode cX2_remove 27 = .ok (.ifnonnull 14, 3) := by decide +kernel
theorem dX2_remove_30 : decode cX2_remove 30 = .ok (.aload_n 0, 1) := by decide +kernel
theorem dX2_remove_31 : decode cX2_remove 31 = .ok (.aload_n 1, 1) := by decide +kernel
theorem dX2_remove_32 : decode cX2_remove 32 = .ok (.getfield 19, 3) := by decide +kernel
theorem dX2_remove_35 : decode cX2_remove 35 = .ok (.putfield 7, 3) := by decide +kernel
theorem dX2_remove_38 : decode cX2_remove 38 = .ok (.goto 11, 3) := by decide +kernel
theorem dX2_remove_41 : decode cX2_remove 41 = .ok (.aload_n 2, 1) := by decide +kernel
theorem dX2_remove_42 : decode cX2_remove 42 = .ok (.aload_n 1, 1) := by decide +kernel
theorem dX2_remove_43 : decode cX2_remove 43 = .ok (.getfield 19, 3) := by decide +kernel
theorem dX2_remove_46 : decode cX2_remove 46 = .ok (.putfield 19, 3) := by decide +kernel
theorem dX2_remove_49 : decode cX2_remove 49 = .ok (.aload_n 1, 1) := by decide +kernel
theorem dX2_remove_50 : decode cX2_remove 50 = .ok (.aconst_null, 1) := by decide +kernel
theorem dX2_remove_51 : decode cX2_remove 51 = .ok (.putfield 19, 3) := by decide +kernel
theorem dX2_remove_54 : decode cX2_remove 54 = .ok (.aload_n 0, 1) := by decide +kernel
theorem dX2_remove_55 : decode cX2_remove 55 = .ok (.dup, 1) := by decide +kernel
theorem dX2_remove_56 : decode cX2_remove 56 = .ok (.getfield 22, 3) := by decide +kernel
theorem dX2_remove_59 : decode cX2_remove 59 = .ok (.iconst 1, 1) := by decide +kernel
theorem dX2_remove_60 : decode cX2_remove 60 = .ok (.isub, 1) := by decide +kernel
theorem dX2_remove_61 : decode cX2_remove 61 = .ok (.putfield 22, 3) := by decide +kernel
theorem dX2_remove_64 : decode cX2_remove 64 = .ok (.return_, 1) := by decide +kernel
theorem dX2_place_0 : decode cX2_place 0 = .ok (.iconst 0, 1) := by decide +kernel
theorem dX2_place_1 : decode cX2_place 1 = .ok (.istore_n 2, 1) := by decide +kernel
theorem dX2_place_2 : decode cX2_place 2 = .ok (.aload_n 0, 1) := by decide +kernel
theorem dX2_place_3 : decode cX2_place 3 = .ok (.getfield 7, 3) := by decide +kernel
theorem dX2_place_6 : decode cX2_place 6 = .ok (.astore_n 3, 1) := by decide +kernel
theorem dX2_place_7 : decode cX2_place 7 = .ok (.aload_n 3, 1) := by decide +kernel
theorem dX2_place_8 : decode cX2_place 8 = .ok (.ifnull 19, 3) := by decide +kernel
theorem dX2_place_11 : decode cX2_place 11 = .ok (.aload_n 3, 1) := by decide +kernel
theorem dX2_place_12 : decode cX2_place 12 = .ok (.aload_n 1, 1) := by decide +kernel
theorem dX2_place_13 : decode cX2_place 13 = .ok (.if_acmp .eq 14, 3) := by decide +kernel
theorem dX2_place_16 : decode cX2_place 16 = .ok (.iinc 2 1, 3) := by decide +kernel
theorem dX2_place_19 : decode cX2_place 19 = .ok (.aload_n 3, 1) := by decide +kernel
theorem dX2_place_20 : decode cX2_place 20 = .ok (.getfield 19, 3) := by decide +kernel
theorem dX2_place_23 : decode cX2_place 23 = .ok (.astore_n 3, 1) := by decide +kernel
theorem dX2_place_24 : decode cX2_place 24 = .ok (.goto (-17), 3) := by decide +kernel
theorem dX2_place_27 : decode cX2_place 27 = .ok (.iload_n 2, 1) := by decide +kernel
theorem dX2_place_28 : decode cX2_place 28 = .ok (.ireturn, 1) := by decide +kernel
theorem dX2_units_0 : decode cX2_units 0 = .ok (.iconst 0, 1) := by decide +kernel
theorem dX2_units_1 : decode cX2_units 1 = .ok (.istore_n 3, 1) := by decide +kernel
theorem dX2_units_2 : decode cX2_units 2 = .ok (.aload_n 0, 1) := by decide +kernel
theorem dX2_units_3 : decode cX2_units 3 = .ok (.getfield 7, 3) := by decide +kernel
theorem dX2_units_6 : decode cX2_units 6 = .ok (.astore 4, 2) := by decide +kernel
theorem dX2_units_8 : decode cX2_units 8 = .ok (.aload 4, 2) := by decide +kernel
theorem dX2_units_10 : decode cX2_units 10 = .ok (.ifnull 39, 3) := by decide +kernel
theorem dX2_units_13 : decode cX2_units 13 = .ok (.aload 4, 2) := by decide +kernel
theorem dX2_units_15 : decode cX2_units 15 = .ok (.getfield 13, 3) := by decide +kernel
theorem dX2_units_18 : decode cX2_units 18 = .ok (.iload_n 2, 1) := by decide +kernel
theorem dX2_units_19 : decode cX2_units 19 = .ok (.if_icmp .gt 30, 3) := by decide +kernel
theorem dX2_units_22 : decode cX2_units 22 = .ok (.aload 4, 2) := by decide +kernel
theorem dX2_units_24 : decode cX2_units 24 = .ok (.getfield 25, 3) := by decide +kernel
theorem dX2_units_27 : decode cX2_units 27 = .ok (.iload_n 1, 1) := by decide +kernel
theorem dX2_units_28 : decode cX2_units 28 = .ok (.if_icmp .ne 11, 3) := by decide +kernel
theorem dX2_units_31 : decode cX2_units 31 = .ok (.iload_n 3, 1) := by decide +kernel
theorem dX2_units_32 : decode cX2_units 32 = .ok (.aload 4, 2) := by decide +kernel
theorem dX2_units_34 : decode cX2_units 34 = .ok (.invokevirtual 28, 3) := by decide +kernel
theorem dX2_units_37 : decode cX2_units 37 = .ok (.iadd, 1) := by decide +kernel
theorem dX2_units_38 : decode cX2_units 38 = .ok (.istore_n 3, 1) := by decide +kernel
theorem dX2_units_39 : decode cX2_units 39 = .ok (.aload 4, 2) := by decide +kernel
theorem dX2_units_41 : decode cX2_units 41 = .ok (.getfield 19, 3) := by decide +kernel
theorem dX2_units_44 : decode cX2_units 44 = .ok (.astore 4, 2) := by decide +kernel
theorem dX2_units_46 : decode cX2_units 46 = .ok (.goto (-38), 3) := by decide +kernel
theorem dX2_units_49 : decode cX2_units 49 = .ok (.iload_n 3, 1) := by decide +kernel
theorem dX2_units_50 : decode cX2_units 50 = .ok (.ireturn, 1) := by decide +kernel
theorem dX2_spare_0 : decode cX2_spare 0 = .ok (.iconst 0, 1) := by decide +kernel
theorem dX2_spare_1 : decode cX2_spare 1 = .ok (.istore 4, 2) := by decide +kernel
theorem dX2_spare_3 : decode cX2_spare 3 = .ok (.iconst 0, 1) := by decide +kernel
theorem dX2_spare_4 : decode cX2_spare 4 = .ok (.istore 5, 2) := by decide +kernel
theorem dX2_spare_6 : decode cX2_spare 6 = .ok (.aload_n 0, 1) := by decide +kernel
theorem dX2_spare_7 : decode cX2_spare 7 = .ok (.getfield 7, 3) := by decide +kernel
theorem dX2_spare_10 : decode cX2_spare 10 = .ok (.astore 6, 2) := by decide +kernel
theorem dX2_spare_12 : decode cX2_spare 12 = .ok (.aload 6, 2) := by decide +kernel
theorem dX2_spare_14 : decode cX2_spare 14 = .ok (.ifnull 83, 3) := by decide +kernel
theorem dX2_spare_17 : decode cX2_spare 17 = .ok (.aload 6, 2) := by decide +kernel
theorem dX2_spare_19 : decode cX2_spare 19 = .ok (.getfield 25, 3) := by decide +kernel
theorem dX2_spare_22 : decode cX2_spare 22 = .ok (.iload_n 1, 1) := by decide +kernel
theorem dX2_spare_23 : decode cX2_spare 23 = .ok (.if_icmp .ne 64, 3) := by decide +kernel
theorem dX2_spare_26 : decode cX2_spare 26 = .ok (.aload 6, 2) := by decide +kernel
theorem dX2_spare_28 : decode cX2_spare 28 = .ok (.iload_n 2, 1) := by decide +kernel
theorem dX2_spare_29 : decode cX2_spare 29 = .ok (.iload_n 3, 1) := by decide +kernel
theorem dX2_spare_30 : decode cX2_spare 30 = .ok (.invokevirtual 32, 3) := by decide +kernel
theorem dX2_spare_33 : decode cX2_spare 33 = .ok (.istore 7, 2) := by decide +kernel
theorem dX2_spare_35 : decode cX2_spare 35 = .ok (.iload 7, 2) := by decide +kernel
theorem dX2_spare_37 : decode cX2_spare 37 = .ok (.ifCond .eq 26, 3) := by decide +kernel
theorem dX2_spare_40 : decode cX2_spare 40 = .ok (.aload 6, 2) := by decide +kernel
theorem dX2_spare_42 : decode cX2_spare 42 = .ok (.invokevirtual 36, 3) := by decide +kernel
theorem dX2_spare_45 : decode cX2_spare 45 = .ok (.ifCond .eq 18, 3) := by decide +kernel
theorem dX2_spare_48 : decode cX2_spare 48 = .ok (.iload 5, 2) := by decide +kernel
theorem dX2_spare_50 : decode cX2_spare 50 = .ok (.iload 4, 2) := by decide +kernel
theorem dX2_spare_52 : decode cX2_spare 52 = .ok (.aload 6, 2) := by decide +kernel
theorem dX2_spare_54 : decode cX2_spare 54 = .ok (.getfield 40, 3) := by decide +kernel
theorem dX2_spare_57 : decode cX2_spare 57 = .ok (.isub, 1) := by decide +kernel
theorem dX2_spare_58 : decode cX2_spare 58 = .ok (.invokestatic 43, 3) := by decide +kernel
theorem dX2_spare_61 : decode cX2_spare 61 = .ok (.istore 5, 2) := by decide +kernel
theorem dX2_spare_63 : decode cX2_spare 63 = .ok (.iload 4, 2) := by decide +kernel
theorem dX2_spare_65 : decode cX2_spare 65 = .ok (.aload 6, 2) := by decide +kernel
theorem dX2_spare_67 : decode cX2_spare 67 = .ok (.invokevirtual 28, 3) := by decide +kernel
theorem dX2_spare_70 : decode cX2_spare 70 = .ok (.iadd, 1) := by decide +kernel
theorem dX2_spare_71 : decode cX2_spare 71 = .ok (.istore 4, 2) := by decide +kernel
theorem dX2_spare_73 : decode cX2_spare 73 = .ok (.iload 7, 2) := by decide +kernel
theorem dX2_spare_75 : decode cX2_spare 75 = .ok (.ifCond .eq 8, 3) := by decide +kernel
theorem dX2_spare_78 : decode cX2_spare 78 = .ok (.iload 5, 2) := by decide +kernel
theorem dX2_spare_80 : decode cX2_spare 80 = .ok (.goto 5, 3) := by decide +kernel
theorem dX2_spare_83 : decode cX2_spare 83 = .ok (.iload 4, 2) := by decide +kernel
theorem dX2_spare_85 : decode cX2_spare 85 = .ok (.istore 5, 2) := by decide +kernel
theorem dX2_spare_87 : decode cX2_spare 87 = .ok (.aload 6, 2) := by decide +kernel
theorem dX2_spare_89 : decode cX2_spare 89 = .ok (.getfield 19, 3) := by decide +kernel
theorem dX2_spare_92 : decode cX2_spare 92 = .ok (.astore 6, 2) := by decide +kernel
theorem dX2_spare_94 : decode cX2_spare 94 = .ok (.goto (-82), 3) := by decide +kernel
theorem dX2_spare_97 : decode cX2_spare 97 = .ok (.iload 5, 2) := by decide +kernel
theorem dX2_spare_99 : decode cX2_spare 99 = .ok (.ireturn, 1) := by decide +kernel
theorem dX2_spreadsOver_0 : decode cX2_spreadsOver 0 = .ok (.aload_n 0, 1) := by decide +kernel
theorem dX2_spreadsOver_1 : decode cX2_spreadsOver 1 = .ok (.getfield 7, 3) := by decide +kernel
theorem dX2_spreadsOver_4 : decode cX2_spreadsOver 4 = .ok (.astore_n 2, 1) := by decide +kernel
theorem dX2_spreadsOver_5 : decode cX2_spreadsOver 5 = .ok (.aload_n 2, 1) := by decide +kernel
theorem dX2_spreadsOver_6 : decode cX2_spreadsOver 6 = .ok (.ifnull 19, 3) := by decide +kernel
theorem dX2_spreadsOver_9 : decode cX2_spreadsOver 9 = .ok (.aload_n 2, 1) := by decide +kernel
theorem dX2_spreadsOver_10 : decode cX2_spreadsOver 10 = .ok (.aload_n 1, 1) := by decide +kernel
theorem dX2_spreadsOver_11 : decode cX2_spreadsOver 11 = .ok (.invokevirtual 49, 3) := by decide +kernel
theorem dX2_spreadsOver_14 : decode cX2_spreadsOver 14 = .ok (.ifnonnull 11, 3) := by decide +kernel
theorem dX2_spreadsOver_17 : decode cX2_spreadsOver 17 = .ok (.aload_n 2, 1) := by decide +kernel
theorem dX2_spreadsOver_18 : decode cX2_spreadsOver 18 = .ok (.getfield 19, 3) := by decide +kernel
theorem dX2_spreadsOver_21 : decode cX2_spreadsOver 21 = .ok (.astore_n 2, 1) := by decide +kernel
theorem dX2_spreadsOver_22 : decode cX2_spreadsOver 22 = .ok (.goto (-17), 3) := by decide +kernel
theorem dX2_spreadsOver_25 : decode cX2_spreadsOver 25 = .ok (.aload_n 2, 1) := by decide +kernel
theorem dX2_spreadsOver_26 : decode cX2_spreadsOver 26 = .ok (.ifnull 7, 3) := by decide +kernel
theorem dX2_spreadsOver_29 : decode cX2_spreadsOver 29 = .ok (.iconst 1, 1) := by decide +kernel
theorem dX2_spreadsOver_30 : decode cX2_spreadsOver 30 = .ok (.goto 4, 3) := by decide +kernel
theorem dX2_spreadsOver_33 : decode cX2_spreadsOver 33 = .ok (.iconst 0, 1) := by decide +kernel
theorem dX2_spreadsOver_34 : decode cX2_spreadsOver 34 = .ok (.ireturn, 1) := by decide +kernel
theorem dX3_init_0 : decode cX3_init 0 = .ok (.aload_n 0, 1) := by decide +kernel
theorem dX3_init_1 : decode cX3_init 1 = .ok (.invokespecial 3, 3) := by decide +kernel
theorem dX3_init_4 : decode cX3_init 4 = .ok (.aload_n 0, 1) := by decide +kernel
theorem dX3_init_5 : decode cX3_init 5 = .ok (.iload_n 1, 1) := by decide +kernel
theorem dX3_init_6 : decode cX3_init 6 = .ok (.putfield 9, 3) := by decide +kernel
theorem dX3_init_9 : decode cX3_init 9 = .ok (.aload_n 0, 1) := by decide +kernel
theorem dX3_init_10 : decode cX3_init 10 = .ok (.iload_n 2, 1) := by decide +kernel
theorem dX3_init_11 : decode cX3_init 11 = .ok (.putfield 15, 3) := by decide +kernel
theorem dX3_init_14 : decode cX3_init 14 = .ok (.aload_n 0, 1) := by decide +kernel
theorem dX3_init_15 : decode cX3_init 15 = .ok (.iload_n 3, 1) := by decide +kernel
theorem dX3_init_16 : decode cX3_init 16 = .ok (.putfield 18, 3) := by decide +kernel
theorem dX3_init_19 : decode cX3_init 19 = .ok (.aload_n 0, 1) := by decide +kernel
theorem dX3_init_20 : decode cX3_init 20 = .ok (.iload 4, 2) := by decide +kernel
theorem dX3_init_22 : decode cX3_init 22 = .ok (.putfield 21, 3) := by decide +kernel
theorem dX3_init_25 : decode cX3_init 25 = .ok (.aload_n 0, 1) := by decide +kernel
theorem dX3_init_26 : decode cX3_init 26 = .ok (.iload 5, 2) := by decide +kernel
theorem dX3_init_28 : decode cX3_init 28 = .ok (.putfield 24, 3) := by decide +kernel
theorem dX3_init_31 : decode cX3_init 31 = .ok (.aload_n 0, 1) := by decide +kernel
theorem dX3_init_32 : decode cX3_init 32 = .ok (.iload 6, 2) := by decide +kernel
theorem dX3_init_34 : decode cX3_init 34 = .ok (.putfield 27, 3) := by decide +kernel
theorem dX3_init_37 : decode cX3_init 37 = .ok (.aload_n 0, 1) := by decide +kernel
theorem dX3_init_38 : decode cX3_init 38 = .ok (.new 30, 3) := by decide +kernel
theorem dX3_init_41 : decode cX3_init 41 = .ok (.dup, 1) := by decide +kernel
theorem dX3_init_42 : decode cX3_init 42 = .ok (.iload_n 1, 1) := by decide +kernel
theorem dX3_init_43 : decode cX3_init 43 = .ok (.invokespecial 32, 3) := by decide +kernel
theorem dX3_init_46 : decode cX3_init 46 = .ok (.putfield 35, 3) := by decide +kernel
theorem dX3_init_49 : decode cX3_init 49 = .ok (.return_, 1) := by decide +kernel
theorem dX3_change_0 : decode cX3_change 0 = .ok (.aload_n 0, 1) := by decide +kernel
theorem dX3_change_1 : decode cX3_change 1 = .ok (.getfield 15, 3) := by decide +kernel
theorem dX3_change_4 : decode cX3_change 4 = .ok (.ifCond .ne 8, 3) := by decide +kernel
theorem dX3_change_7 : decode cX3_change 7 = .ok (.aload_n 0, 1) := by decide +kernel
theorem dX3_change_8 : decode cX3_change 8 = .ok (.getfield 24, 3) := by decide +kernel
theorem dX3_change_11 : decode cX3_change 11 = .ok (.ireturn, 1) := by decide +kernel
theorem dX3_change_12 : decode cX3_change 12 = .ok (.aload_n 0, 1) := by decide +kernel
theorem dX3_change_13 : decode cX3_change 13 = .ok (.getfield 15, 3) := by decide +kernel
theorem dX3_change_16 : decode cX3_change 16 = .ok (.iconst 1, 1) := by decide +kernel
theorem dX3_change_17 : decode cX3_change 17 = .ok (.if_icmp .ne 11, 3) := by decide +kernel
theorem dX3_change_20 : decode cX3_change 20 = .ok (.aload_n 0, 1) := by decide +kernel
theorem dX3_change_21 : decode cX3_change 21 = .ok (.getfield 24, 3) := by decide +kernel
theorem dX3_change_24 : decode cX3_change 24 = .ok (.ineg, 1) := by decide +kernel
theorem dX3_change_25 : decode cX3_change 25 = .ok (.goto 4, 3) := by decide +kernel
theorem dX3_change_28 : decode cX3_change 28 = .ok (.iconst 0, 1) := by decide +kernel
theorem dX3_change_29 : decode cX3_change 29 = .ok (.ireturn, 1) := by decide +kernel
theorem dX3_needsUnits_0 : decode cX3_needsUnits 0 = .ok (.aload_n 0, 1) := by decide +kernel
theorem dX3_needsUnits_1 : decode cX3_needsUnits 1 = .ok (.getfield 15, 3) := by decide +kernel
theorem dX3_needsUnits_4 : decode cX3_needsUnits 4 = .ok (.iconst 1, 1) := by decide +kernel
theorem dX3_needsUnits_5 : decode cX3_needsUnits 5 = .ok (.if_icmp .eq 11, 3) := by decide +kernel
theorem dX3_needsUnits_8 : decode cX3_needsUnits 8 = .ok (.aload_n 0, 1) := by decide +kernel
theorem dX3_needsUnits_9 : decode cX3_needsUnits 9 = .ok (.getfield 15, 3) := by decide +kernel
theorem dX3_needsUnits_12 : decode cX3_needsUnits 12 = .ok (.iconst 2, 1) := by decide +kernel
theorem dX3_needsUnits_13 : decode cX3_needsUnits 13 = .ok (.if_icmp .ne 7, 3) := by decide +kernel
theorem dX3_needsUnits_16 : decode cX3_needsUnits 16 = .ok (.iconst 1, 1) := by decide +kernel
theorem dX3_needsUnits_17 : decode cX3_needsUnits 17 = .ok (.goto 4, 3) := by decide +kernel
theorem dX3_needsUnits_20 : decode cX3_needsUnits 20 = .ok (.iconst 0, 1) := by decide +kernel
theorem dX3_needsUnits_21 : decode cX3_needsUnits 21 = .ok (.ireturn, 1) := by decide +kernel
theorem dX3_isBehind_0 : decode cX3_isBehind 0 = .ok (.aload_n 0, 1) := by decide +kernel
theorem dX3_isBehind_1 : decode cX3_isBehind 1 = .ok (.getfield 18, 3) := by decide +kernel
theorem dX3_isBehind_4 : decode cX3_isBehind 4 = .ok (.iload_n 1, 1) := by decide +kernel
theorem dX3_isBehind_5 : decode cX3_isBehind 5 = .ok (.if_icmp .gt 19, 3) := by decide +kernel
theorem dX3_isBehind_8 : decode cX3_isBehind 8 = .ok (.aload_n 0, 1) := by decide +kernel
theorem dX3_isBehind_9 : decode cX3_isBehind 9 = .ok (.getfield 18, 3) := by decide +kernel
theorem dX3_isBehind_12 : decode cX3_isBehind 12 = .ok (.iload_n 1, 1) := by decide +kernel
theorem dX3_isBehind_13 : decode cX3_isBehind 13 = .ok (.if_icmp .ne 15, 3) := by decide +kernel
theorem dX3_isBehind_16 : decode cX3_isBehind 16 = .ok (.aload_n 0, 1) := by decide +kernel
theorem dX3_isBehind_17 : decode cX3_isBehind 17 = .ok (.getfield 9, 3) := by decide +kernel
theorem dX3_isBehind_20 : decode cX3_isBehind 20 = .ok (.iload_n 2, 1) := by decide +kernel
theorem dX3_isBehind_21 : decode cX3_isBehind 21 = .ok (.if_icmp .le 7, 3) := by decide +kernel
theorem dX3_isBehind_24 : decode cX3_isBehind 24 = .ok (.iconst 1, 1) := by decide +kernel
theorem dX3_isBehind_25 : decode cX3_isBehind 25 = .ok (.goto 4, 3) := by decide +kernel
theorem dX3_isBehind_28 : decode cX3_isBehind 28 = .ok (.iconst 0, 1) := by decide +kernel
theorem dX3_isBehind_29 : decode cX3_isBehind 29 = .ok (.ireturn, 1) := by decide +kernel
theorem dX3_shareOf_0 : decode cX3_shareOf 0 = .ok (.aload_n 0, 1) := by decide +kernel
theorem dX3_shareOf_1 : decode cX3_shareOf 1 = .ok (.getfield 39, 3) := by decide +kernel
theorem dX3_shareOf_4 : decode cX3_shareOf 4 = .ok (.astore_n 2, 1) := by decide +kernel
theorem dX3_shareOf_5 : decode cX3_shareOf 5 = .ok (.aload_n 2, 1) := by decide +kernel
theorem dX3_shareOf_6 : decode cX3_shareOf 6 = .ok (.ifnull 19, 3) := by decide +kernel
theorem dX3_shareOf_9 : decode cX3_shareOf 9 = .ok (.aload_n 2, 1) := by decide +kernel
theorem dX3_shareOf_10 : decode cX3_shareOf 10 = .ok (.getfield 43, 3) := by decide +kernel
theorem dX3_shareOf_13 : decode cX3_shareOf 13 = .ok (.aload_n 1, 1) := by decide +kernel
theorem dX3_shareOf_14 : decode cX3_shareOf 14 = .ok (.if_acmp .eq 11, 3) := by decide +kernel
theorem dX3_shareOf_17 : decode cX3_shareOf 17 = .ok (.aload_n 2, 1) := by decide +kernel
theorem dX3_shareOf_18 : decode cX3_shareOf 18 = .ok (.getfield 49, 3) := by decide +kernel
theorem dX3_shareOf_21 : decode cX3_shareOf 21 = .ok (.astore_n 2, 1) := by decide +kernel
theorem dX3_shareOf_22 : decode cX3_shareOf 22 = .ok (.goto (-17), 3) := by decide +kernel
theorem dX3_shareOf_25 : decode cX3_shareOf 25 = .ok (.aload_n 2, 1) := by decide +kernel
theorem dX3_shareOf_26 : decode cX3_shareOf 26 = .ok (.areturn, 1) := by decide +kernel
theorem dX4_init_0 : decode cX4_init 0 = .ok (.aload_n 0, 1) := by decide +kernel
theorem dX4_init_1 : decode cX4_init 1 = .ok (.invokespecial 1, 3) := by decide +kernel
theorem dX4_init_4 : decode cX4_init 4 = .ok (.return_, 1) := by decide +kernel
theorem dX4_empty_0 : decode cX4_empty 0 = .ok (.aload_n 0, 1) := by decide +kernel
theorem dX4_empty_1 : decode cX4_empty 1 = .ok (.lconst 0, 1) := by decide +kernel
theorem dX4_empty_2 : decode cX4_empty 2 = .ok (.putfield 7, 3) := by decide +kernel
theorem dX4_empty_5 : decode cX4_empty 5 = .ok (.return_, 1) := by decide +kernel
theorem dX4_bring_0 : decode cX4_bring 0 = .ok (.aload_n 0, 1) := by decide +kernel
theorem dX4_bring_1 : decode cX4_bring 1 = .ok (.dup, 1) := by decide +kernel
theorem dX4_bring_2 : decode cX4_bring 2 = .ok (.getfield 7, 3) := by decide +kernel
theorem dX4_bring_5 : decode cX4_bring 5 = .ok (.aload_n 1, 1) := by decide +kernel
theorem dX4_bring_6 : decode cX4_bring 6 = .ok (.getfield 13, 3) := by decide +kernel
theorem dX4_bring_9 : decode cX4_bring 9 = .ok (.i2l, 1) := by decide +kernel
theorem dX4_bring_10 : decode cX4_bring 10 = .ok (.ladd, 1) := by decide +kernel
theorem dX4_bring_11 : decode cX4_bring 11 = .ok (.putfield 7, 3) := by decide +kernel
theorem dX4_bring_14 : decode cX4_bring 14 = .ok (.return_, 1) := by decide +kernel
theorem dX4_take_0 : decode cX4_take 0 = .ok (.aload_n 0, 1) := by decide +kernel
theorem dX4_take_1 : decode cX4_take 1 = .ok (.getfield 19, 3) := by decide +kernel
theorem dX4_take_4 : decode cX4_take 4 = .ok (.ifCond .le 19, 3) := by decide +kernel
theorem dX4_take_7 : decode cX4_take 7 = .ok (.aload_n 0, 1) := by decide +kernel
theorem dX4_take_8 : decode cX4_take 8 = .ok (.getfield 7, 3) := by decide +kernel
theorem dX4_take_11 : decode cX4_take 11 = .ok (.iload_n 1, 1) := by decide +kernel
theorem dX4_take_12 : decode cX4_take 12 = .ok (.i2l, 1) := by decide +kernel
theorem dX4_take_13 : decode cX4_take 13 = .ok (.lmul, 1) := by decide +kernel
theorem dX4_take_14 : decode cX4_take 14 = .ok (.aload_n 0, 1) := by decide +kernel
theorem dX4_take_15 : decode cX4_take 15 = .ok (.getfield 19, 3) := by decide +kernel
theorem dX4_take_18 : decode cX4_take 18 = .ok (.i2l, 1) := by decide +kernel
theorem dX4_take_19 : decode cX4_take 19 = .ok (.ldiv, 1) := by decide +kernel
theorem dX4_take_20 : decode cX4_take 20 = .ok (.goto 4, 3) := by decide +kernel
theorem dX4_take_23 : decode cX4_take 23 = .ok (.lconst 0, 1) := by decide +kernel
theorem dX4_take_24 : decode cX4_take 24 = .ok (.lstore_n 2, 1) := by decide +kernel
theorem dX4_take_25 : decode cX4_take 25 = .ok (.aload_n 0, 1) := by decide +kernel
theorem dX4_take_26 : decode cX4_take 26 = .ok (.dup, 1) := by decide +kernel
theorem dX4_take_27 : decode cX4_take 27 = .ok (.getfield 7, 3) := by decide +kernel
theorem dX4_take_30 : decode cX4_take 30 = .ok (.lload_n 2, 1) := by decide +kernel
theorem dX4_take_31 : decode cX4_take 31 = .ok (.lsub, 1) := by decide +kernel
theorem dX4_take_32 : decode cX4_take 32 = .ok (.putfield 7, 3) := by decide +kernel
theorem dX4_take_35 : decode cX4_take 35 = .ok (.lload_n 2, 1) := by decide +kernel
theorem dX4_take_36 : decode cX4_take 36 = .ok (.lreturn, 1) := by decide +kernel
theorem dX4_bringBack_0 : decode cX4_bringBack 0 = .ok (.aload_n 0, 1) := by decide +kernel
theorem dX4_bringBack_1 : decode cX4_bringBack 1 = .ok (.dup, 1) := by decide +kernel
theorem dX4_bringBack_2 : decode cX4_bringBack 2 = .ok (.getfield 7, 3) := by decide +kernel
theorem dX4_bringBack_5 : decode cX4_bringBack 5 = .ok (.aload_n 1, 1) := by decide +kernel
theorem dX4_bringBack_6 : decode cX4_bringBack 6 = .ok (.getfield 13, 3) := by decide +kernel
theorem dX4_bringBack_9 : decode cX4_bringBack 9 = .ok (.i2l, 1) := by decide +kernel
theorem dX4_bringBack_10 : decode cX4_bringBack 10 = .ok (.ladd, 1) := by decide +kernel
theorem dX4_bringBack_11 : decode cX4_bringBack 11 = .ok (.putfield 7, 3) := by decide +kernel
theorem dX4_bringBack_14 : decode cX4_bringBack 14 = .ok (.return_, 1) := by decide +kernel
theorem dX4_absorb_0 : decode cX4_absorb 0 = .ok (.aload_n 1, 1) := by decide +kernel
theorem dX4_absorb_1 : decode cX4_absorb 1 = .ok (.iload_n 2, 1) := by decide +kernel
theorem dX4_absorb_2 : decode cX4_absorb 2 = .ok (.aload_n 0, 1) := by decide +kernel
theorem dX4_absorb_3 : decode cX4_absorb 3 = .ok (.getfield 19, 3) := by decide +kernel
theorem dX4_absorb_6 : decode cX4_absorb 6 = .ok (.aload_n 1, 1) := by decide +kernel
theorem dX4_absorb_7 : decode cX4_absorb 7 = .ok (.getfield 22, 3) := by decide +kernel
theorem dX4_absorb_10 : decode cX4_absorb 10 = .ok (.invokestatic 25, 3) := by decide +kernel
theorem dX4_absorb_13 : decode cX4_absorb 13 = .ok (.invokestatic 31, 3) := by decide +kernel
theorem dX4_absorb_16 : decode cX4_absorb 16 = .ok (.lstore_n 3, 1) := by decide +kernel
theorem dX4_absorb_17 : decode cX4_absorb 17 = .ok (.aload_n 0, 1) := by decide +kernel
theorem dX4_absorb_18 : decode cX4_absorb 18 = .ok (.dup, 1) := by decide +kernel
theorem dX4_absorb_19 : decode cX4_absorb 19 = .ok (.getfield 7, 3) := by decide +kernel
theorem dX4_absorb_22 : decode cX4_absorb 22 = .ok (.lload_n 3, 1) := by decide +kernel
theorem dX4_absorb_23 : decode cX4_absorb 23 = .ok (.ladd, 1) := by decide +kernel
theorem dX4_absorb_24 : decode cX4_absorb 24 = .ok (.putfield 7, 3) := by decide +kernel
theorem dX4_absorb_27 : decode cX4_absorb 27 = .ok (.lload_n 3, 1) := by decide +kernel
theorem dX4_absorb_28 : decode cX4_absorb 28 = .ok (.lreturn, 1) := by decide +kernel
theorem dX4_worth_0 : decode cX4_worth 0 = .ok (.aload_n 0, 1) := by decide +kernel
theorem dX4_worth_1 : decode cX4_worth 1 = .ok (.getfield 7, 3) := by decide +kernel
theorem dX4_worth_4 : decode cX4_worth 4 = .ok (.lreturn, 1) := by decide +kernel
theorem dX5_init_0 : decode cX5_init 0 = .ok (.aload_n 0, 1) := by decide +kernel
theorem dX5_init_1 : decode cX5_init 1 = .ok (.invokespecial 1, 3) := by decide +kernel
theorem dX5_init_4 : decode cX5_init 4 = .ok (.aload_n 0, 1) := by decide +kernel
theorem dX5_init_5 : decode cX5_init 5 = .ok (.aload_n 1, 1) := by decide +kernel
theorem dX5_init_6 : decode cX5_init 6 = .ok (.putfield 7, 3) := by decide +kernel
theorem dX5_init_9 : decode cX5_init 9 = .ok (.aload_n 0, 1) := by decide +kernel
theorem dX5_init_10 : decode cX5_init 10 = .ok (.iload_n 2, 1) := by decide +kernel
theorem dX5_init_11 : decode cX5_init 11 = .ok (.putfield 13, 3) := by decide +kernel
theorem dX5_init_14 : decode cX5_init 14 = .ok (.aload_n 0, 1) := by decide +kernel
theorem dX5_init_15 : decode cX5_init 15 = .ok (.lload_n 3, 1) := by decide +kernel
theorem dX5_init_16 : decode cX5_init 16 = .ok (.putfield 17, 3) := by decide +kernel
theorem dX5_init_19 : decode cX5_init 19 = .ok (.aload_n 0, 1) := by decide +kernel
theorem dX5_init_20 : decode cX5_init 20 = .ok (.aload 5, 2) := by decide +kernel
theorem dX5_init_22 : decode cX5_init 22 = .ok (.putfield 21, 3) := by decide +kernel
theorem dX5_init_25 : decode cX5_init 25 = .ok (.return_, 1) := by decide +kernel
theorem dX6_init_0 : decode cX6_init 0 = .ok (.aload_n 0, 1) := by decide +kernel
theorem dX6_init_1 : decode cX6_init 1 = .ok (.invokespecial 3, 3) := by decide +kernel
theorem dX6_init_4 : decode cX6_init 4 = .ok (.return_, 1) := by decide +kernel
theorem dX6_replay_0 : decode cX6_replay 0 = .ok (.aload_n 0, 1) := by decide +kernel
theorem dX6_replay_1 : decode cX6_replay 1 = .ok (.iconst 0, 1) := by decide +kernel
theorem dX6_replay_2 : decode cX6_replay 2 = .ok (.putfield 9, 3) := by decide +kernel
theorem dX6_replay_5 : decode cX6_replay 5 = .ok (.aload_n 0, 1) := by decide +kernel
theorem dX6_replay_6 : decode cX6_replay 6 = .ok (.lconst 0, 1) := by decide +kernel
theorem dX6_replay_7 : decode cX6_replay 7 = .ok (.putfield 15, 3) := by decide +kernel
theorem dX6_replay_10 : decode cX6_replay 10 = .ok (.aload_n 0, 1) := by decide +kernel
theorem dX6_replay_11 : decode cX6_replay 11 = .ok (.lconst 0, 1) := by decide +kernel
theorem dX6_replay_12 : decode cX6_replay 12 = .ok (.putfield 19, 3) := by decide +kernel
theorem dX6_replay_15 : decode cX6_replay 15 = .ok (.aload_n 0, 1) := by decide +kernel
theorem dX6_replay_16 : decode cX6_replay 16 = .ok (.lconst 0, 1) := by decide +kernel
theorem dX6_replay_17 : decode cX6_replay 17 = .ok (.putfield 22, 3) := by decide +kernel
theorem dX6_replay_20 : decode cX6_replay 20 = .ok (.aload_n 0, 1) := by decide +kernel
theorem dX6_replay_21 : decode cX6_replay 21 = .ok (.lconst 0, 1) := by decide +kernel
theorem dX6_replay_22 : decode cX6_replay 22 = .ok (.putfield 25, 3) := by decide +kernel
theorem dX6_replay_25 : decode cX6_replay 25 = .ok (.aload_n 0, 1) := by decide +kernel
theorem dX6_replay_26 : decode cX6_replay 26 = .ok (.invokevirtual 28, 3) := by decide +kernel
theorem dX6_replay_29 : decode cX6_replay 29 = .ok (.aload_n 1, 1) := by decide +kernel
theorem dX6_replay_30 : decode cX6_replay 30 = .ok (.astore 4, 2) := by decide +kernel
theorem dX6_replay_32 : decode cX6_replay 32 = .ok (.aload 4, 2) := by decide +kernel
theorem dX6_replay_34 : decode cX6_replay 34 = .ok (.ifnull 56, 3) := by decide +kernel
theorem dX6_replay_37 : decode cX6_replay 37 = .ok (.aload 4, 2) := by decide +kernel
theorem dX6_replay_39 : decode cX6_replay 39 = .ok (.getfield 31, 3) := by decide +kernel
theorem dX6_replay_42 : decode cX6_replay 42 = .ok (.iload_n 3, 1) := by decide +kernel
theorem dX6_replay_43 : decode cX6_replay 43 = .ok (.if_icmp .gt 47, 3) := by decide +kernel
theorem dX6_replay_46 : decode cX6_replay 46 = .ok (.aload 4, 2) := by decide +kernel
theorem dX6_replay_48 : decode cX6_replay 48 = .ok (.getfield 36, 3) := by decide +kernel
theorem dX6_replay_51 : decode cX6_replay 51 = .ok (.iconst 3, 1) := by decide +kernel
theorem dX6_replay_52 : decode cX6_replay 52 = .ok (.if_icmp .ne 13, 3) := by decide +kernel
theorem dX6_replay_55 : decode cX6_replay 55 = .ok (.aload_n 0, 1) := by decide +kernel
theorem dX6_replay_56 : decode cX6_replay 56 = .ok (.aload 4, 2) := by decide +kernel
theorem dX6_replay_58 : decode cX6_replay 58 = .ok (.iload_n 2, 1) := by decide +kernel
theorem dX6_replay_59 : decode cX6_replay 59 = .ok (.invokevirtual 39, 3) := by decide +kernel
theorem dX6_replay_62 : decode cX6_replay 62 = .ok (.goto 18, 3) := by decide +kernel
theorem dX6_replay_65 : decode cX6_replay 65 = .ok (.aload 4, 2) := by decide +kernel
theorem dX6_replay_67 : decode cX6_replay 67 = .ok (.getfield 43, 3) := by decide +kernel
theorem dX6_replay_70 : decode cX6_replay 70 = .ok (.iload_n 2, 1) := by decide +kernel
theorem dX6_replay_71 : decode cX6_replay 71 = .ok (.if_icmp .ne 9, 3) := by decide +kernel
theorem dX6_replay_74 : decode cX6_replay 74 = .ok (.aload_n 0, 1) := by decide +kernel
theorem dX6_replay_75 : decode cX6_replay 75 = .ok (.aload 4, 2) := by decide +kernel
theorem dX6_replay_77 : decode cX6_replay 77 = .ok (.invokevirtual 46, 3) := by decide +kernel
theorem dX6_replay_80 : decode cX6_replay 80 = .ok (.aload 4, 2) := by decide +kernel
theorem dX6_replay_82 : decode cX6_replay 82 = .ok (.getfield 50, 3) := by decide +kernel
theorem dX6_replay_85 : decode cX6_replay 85 = .ok (.astore 4, 2) := by decide +kernel
theorem dX6_replay_87 : decode cX6_replay 87 = .ok (.goto (-55), 3) := by decide +kernel
theorem dX6_replay_90 : decode cX6_replay 90 = .ok (.return_, 1) := by decide +kernel
theorem dX6_apply_0 : decode cX6_apply 0 = .ok (.aload_n 1, 1) := by decide +kernel
theorem dX6_apply_1 : decode cX6_apply 1 = .ok (.getfield 36, 3) := by decide +kernel
theorem dX6_apply_4 : decode cX6_apply 4 = .ok (.ifCond .ne 25, 3) := by decide +kernel
theorem dX6_apply_7 : decode cX6_apply 7 = .ok (.aload_n 0, 1) := by decide +kernel
theorem dX6_apply_8 : decode cX6_apply 8 = .ok (.aload_n 1, 1) := by decide +kernel
theorem dX6_apply_9 : decode cX6_apply 9 = .ok (.invokevirtual 54, 3) := by decide +kernel
theorem dX6_apply_12 : decode cX6_apply 12 = .ok (.aload_n 0, 1) := by decide +kernel
theorem dX6_apply_13 : decode cX6_apply 13 = .ok (.dup, 1) := by decide +kernel
theorem dX6_apply_14 : decode cX6_apply 14 = .ok (.getfield 15, 3) := by decide +kernel
theorem dX6_apply_17 : decode cX6_apply 17 = .ok (.aload_n 1, 1) := by decide +kernel
theorem dX6_apply_18 : decode cX6_apply 18 = .ok (.getfield 57, 3) := by decide +kernel
theorem dX6_apply_21 : decode cX6_apply 21 = .ok (.i2l, 1) := by decide +kernel
theorem dX6_apply_22 : decode cX6_apply 22 = .ok (.ladd, 1) := by decide +kernel
theorem dX6_apply_23 : decode cX6_apply 23 = .ok (.putfield 15, 3) := by decide +kernel
theorem dX6_apply_26 : decode cX6_apply 26 = .ok (.goto 67, 3) := by decide +kernel
theorem dX6_apply_29 : decode cX6_apply 29 = .ok (.aload_n 1, 1) := by decide +kernel
theorem dX6_apply_30 : decode cX6_apply 30 = .ok (.getfield 36, 3) := by decide +kernel
theorem dX6_apply_33 : decode cX6_apply 33 = .ok (.iconst 1, 1) := by decide +kernel
theorem dX6_apply_34 : decode cX6_apply 34 = .ok (.if_icmp .ne 31, 3) := by decide +kernel
theorem dX6_apply_37 : decode cX6_apply 37 = .ok (.aload_n 1, 1) := by decide +kernel
theorem dX6_apply_38 : decode cX6_apply 38 = .ok (.aload_n 0, 1) := by decide +kernel
theorem dX6_apply_39 : decode cX6_apply 39 = .ok (.aload_n 1, 1) := by decide +kernel
theorem dX6_apply_40 : decode cX6_apply 40 = .ok (.getfield 60, 3) := by decide +kernel
theorem dX6_apply_43 : decode cX6_apply 43 = .ok (.invokevirtual 63, 3) := by decide +kernel
theorem dX6_apply_46 : decode cX6_apply 46 = .ok (.putfield 67, 3) := by decide +kernel
theorem dX6_apply_49 : decode cX6_apply 49 = .ok (.aload_n 0, 1) := by decide +kernel
theorem dX6_apply_50 : decode cX6_apply 50 = .ok (.dup, 1) := by decide +kernel
theorem dX6_apply_51 : decode cX6_apply 51 = .ok (.getfield 19, 3) := by decide +kernel
theorem dX6_apply_54 : decode cX6_apply 54 = .ok (.aload_n 1, 1) := by decide +kernel
theorem dX6_apply_55 : decode cX6_apply 55 = .ok (.getfield 67, 3) := by decide +kernel
theorem dX6_apply_58 : decode cX6_apply 58 = .ok (.ladd, 1) := by decide +kernel
theorem dX6_apply_59 : decode cX6_apply 59 = .ok (.putfield 19, 3) := by decide +kernel
theorem dX6_apply_62 : decode cX6_apply 62 = .ok (.goto 31, 3) := by decide +kernel
theorem dX6_apply_65 : decode cX6_apply 65 = .ok (.aload_n 0, 1) := by decide +kernel
theorem dX6_apply_66 : decode cX6_apply 66 = .ok (.dup, 1) := by decide +kernel
theorem dX6_apply_67 : decode cX6_apply 67 = .ok (.getfield 22, 3) := by decide +kernel
theorem dX6_apply_70 : decode cX6_apply 70 = .ok (.aload_n 1, 1) := by decide +kernel
theorem dX6_apply_71 : decode cX6_apply 71 = .ok (.getfield 57, 3) := by decide +kernel
theorem dX6_apply_74 : decode cX6_apply 74 = .ok (.i2l, 1) := by decide +kernel
theorem dX6_apply_75 : decode cX6_apply 75 = .ok (.aload_n 0, 1) := by decide +kernel
theorem dX6_apply_76 : decode cX6_apply 76 = .ok (.aload_n 1, 1) := by decide +kernel
theorem dX6_apply_77 : decode cX6_apply 77 = .ok (.getfield 60, 3) := by decide +kernel
theorem dX6_apply_80 : decode cX6_apply 80 = .ok (.invokevirtual 63, 3) := by decide +kernel
theorem dX6_apply_83 : decode cX6_apply 83 = .ok (.lsub, 1) := by decide +kernel
theorem dX6_apply_84 : decode cX6_apply 84 = .ok (.ladd, 1) := by decide +kernel
theorem dX6_apply_85 : decode cX6_apply 85 = .ok (.putfield 22, 3) := by decide +kernel
theorem dX6_apply_88 : decode cX6_apply 88 = .ok (.aload_n 0, 1) := by decide +kernel
theorem dX6_apply_89 : decode cX6_apply 89 = .ok (.aload_n 1, 1) := by decide +kernel
theorem dX6_apply_90 : decode cX6_apply 90 = .ok (.invokevirtual 70, 3) := by decide +kernel
theorem dX6_apply_93 : decode cX6_apply 93 = .ok (.aload_n 0, 1) := by decide +kernel
theorem dX6_apply_94 : decode cX6_apply 94 = .ok (.dup, 1) := by decide +kernel
theorem dX6_apply_95 : decode cX6_apply 95 = .ok (.getfield 9, 3) := by decide +kernel
theorem dX6_apply_98 : decode cX6_apply 98 = .ok (.aload_n 1, 1) := by decide +kernel
theorem dX6_apply_99 : decode cX6_apply 99 = .ok (.invokevirtual 73, 3) := by decide +kernel
theorem dX6_apply_102 : decode cX6_apply 102 = .ok (.iadd, 1) := by decide +kernel
theorem dX6_apply_103 : decode cX6_apply 103 = .ok (.putfield 9, 3) := by decide +kernel
theorem dX6_apply_106 : decode cX6_apply 106 = .ok (.return_, 1) := by decide +kernel
theorem dX6_applyShares_0 : decode cX6_applyShares 0 = .ok (.aload_n 1, 1) := by decide +kernel
theorem dX6_applyShares_1 : decode cX6_applyShares 1 = .ok (.getfield 77, 3) := by decide +kernel
theorem dX6_applyShares_4 : decode cX6_applyShares 4 = .ok (.astore_n 3, 1) := by decide +kernel
theorem dX6_applyShares_5 : decode cX6_applyShares 5 = .ok (.aload_n 3, 1) := by decide +kernel
theorem dX6_applyShares_6 : decode cX6_applyShares 6 = .ok (.ifnull 63, 3) := by decide +kernel
theorem dX6_applyShares_9 : decode cX6_applyShares 9 = .ok (.aload_n 3, 1) := by decide +kernel
theorem dX6_applyShares_10 : decode cX6_applyShares 10 = .ok (.getfield 81, 3) := by decide +kernel
theorem dX6_applyShares_13 : decode cX6_applyShares 13 = .ok (.getfield 43, 3) := by decide +kernel
theorem dX6_applyShares_16 : decode cX6_applyShares 16 = .ok (.iload_n 2, 1) := by decide +kernel
theorem dX6_applyShares_17 : decode cX6_applyShares 17 = .ok (.if_icmp .ne 44, 3) := by decide +kernel
theorem dX6_applyShares_20 : decode cX6_applyShares 20 = .ok (.aload_n 0, 1) := by decide +kernel
theorem dX6_applyShares_21 : decode cX6_applyShares 21 = .ok (.dup, 1) := by decide +kernel
theorem dX6_applyShares_22 : decode cX6_applyShares 22 = .ok (.getfield 15, 3) := by decide +kernel
theorem dX6_applyShares_25 : decode cX6_applyShares 25 = .ok (.aload_n 3, 1) := by decide +kernel
theorem dX6_applyShares_26 : decode cX6_applyShares 26 = .ok (.getfield 86, 3) := by decide +kernel
theorem dX6_applyShares_29 : decode cX6_applyShares 29 = .ok (.i2l, 1) := by decide +kernel
theorem dX6_applyShares_30 : decode cX6_applyShares 30 = .ok (.ladd, 1) := by decide +kernel
theorem dX6_applyShares_31 : decode cX6_applyShares 31 = .ok (.putfield 15, 3) := by decide +kernel
theorem dX6_applyShares_34 : decode cX6_applyShares 34 = .ok (.aload_n 0, 1) := by decide +kernel
theorem dX6_applyShares_35 : decode cX6_applyShares 35 = .ok (.dup, 1) := by decide +kernel
theorem dX6_applyShares_36 : decode cX6_applyShares 36 = .ok (.getfield 25, 3) := by decide +kernel
theorem dX6_applyShares_39 : decode cX6_applyShares 39 = .ok (.aload_n 3, 1) := by decide +kernel
theorem dX6_applyShares_40 : decode cX6_applyShares 40 = .ok (.getfield 86, 3) := by decide +kernel
theorem dX6_applyShares_43 : decode cX6_applyShares 43 = .ok (.i2l, 1) := by decide +kernel
theorem dX6_applyShares_44 : decode cX6_applyShares 44 = .ok (.aload_n 0, 1) := by decide +kernel
theorem dX6_applyShares_45 : decode cX6_applyShares 45 = .ok (.aload_n 3, 1) := by decide +kernel
theorem dX6_applyShares_46 : decode cX6_applyShares 46 = .ok (.getfield 81, 3) := by decide +kernel
theorem dX6_applyShares_49 : decode cX6_applyShares 49 = .ok (.aload_n 3, 1) := by decide +kernel
theorem dX6_applyShares_50 : decode cX6_applyShares 50 = .ok (.getfield 86, 3) := by decide +kernel
theorem dX6_applyShares_53 : decode cX6_applyShares 53 = .ok (.invokevirtual 89, 3) := by decide +kernel
theorem dX6_applyShares_56 : decode cX6_applyShares 56 = .ok (.lsub, 1) := by decide +kernel
theorem dX6_applyShares_57 : decode cX6_applyShares 57 = .ok (.ladd, 1) := by decide +kernel
theorem dX6_applyShares_58 : decode cX6_applyShares 58 = .ok (.putfield 25, 3) := by decide +kernel
theorem dX6_applyShares_61 : decode cX6_applyShares 61 = .ok (.aload_n 3, 1) := by decide +kernel
theorem dX6_applyShares_62 : decode cX6_applyShares 62 = .ok (.getfield 93, 3) := by decide +kernel
theorem dX6_applyShares_65 : decode cX6_applyShares 65 = .ok (.astore_n 3, 1) := by decide +kernel
theorem dX6_applyShares_66 : decode cX6_applyShares 66 = .ok (.goto (-61), 3) := by decide +kernel
theorem dX6_applyShares_69 : decode cX6_applyShares 69 = .ok (.return_, 1) := by decide +kernel
theorem dX6_portion_0 : decode cX6_portion 0 = .ok (.aload_n 0, 1) := by decide +kernel
theorem dX6_portion_1 : decode cX6_portion 1 = .ok (.getfield 60, 3) := by decide +kernel
theorem dX6_portion_4 : decode cX6_portion 4 = .ok (.ifCond .le 17, 3) := by decide +kernel
theorem dX6_portion_7 : decode cX6_portion 7 = .ok (.iload_n 1, 1) := by decide +kernel
theorem dX6_portion_8 : decode cX6_portion 8 = .ok (.i2l, 1) := by decide +kernel
theorem dX6_portion_9 : decode cX6_portion 9 = .ok (.iload_n 2, 1) := by decide +kernel
theorem dX6_portion_10 : decode cX6_portion 10 = .ok (.i2l, 1) := by decide +kernel
theorem dX6_portion_11 : decode cX6_portion 11 = .ok (.lmul, 1) := by decide +kernel
theorem dX6_portion_12 : decode cX6_portion 12 = .ok (.aload_n 0, 1) := by decide +kernel
theorem dX6_portion_13 : decode cX6_portion 13 = .ok (.getfield 60, 3) := by decide +kernel
theorem dX6_portion_16 : decode cX6_portion 16 = .ok (.i2l, 1) := by decide +kernel
theorem dX6_portion_17 : decode cX6_portion 17 = .ok (.ldiv, 1) := by decide +kernel
theorem dX6_portion_18 : decode cX6_portion 18 = .ok (.goto 4, 3) := by decide +kernel
theorem dX6_portion_21 : decode cX6_portion 21 = .ok (.lconst 0, 1) := by decide +kernel
theorem dX6_portion_22 : decode cX6_portion 22 = .ok (.lreturn, 1) := by decide +kernel
theorem dX7_init_0 : decode cX7_init 0 = .ok (.aload_n 0, 1) := by decide +kernel
theorem dX7_init_1 : decode cX7_init 1 = .ok (.invokespecial 1, 3) := by decide +kernel
theorem dX7_init_4 : decode cX7_init 4 = .ok (.aload_n 0, 1) := by decide +kernel
theorem dX7_init_5 : decode cX7_init 5 = .ok (.bipush 60, 2) := by decide +kernel
theorem dX7_init_7 : decode cX7_init 7 = .ok (.anewarray 9, 3) := by decide +kernel
theorem dX7_init_10 : decode cX7_init 10 = .ok (.putfield 11, 3) := by decide +kernel
theorem dX7_init_13 : decode cX7_init 13 = .ok (.aload_n 0, 1) := by decide +kernel
theorem dX7_init_14 : decode cX7_init 14 = .ok (.new 15, 3) := by decide +kernel
theorem dX7_init_17 : decode cX7_init 17 = .ok (.dup, 1) := by decide +kernel
theorem dX7_init_18 : decode cX7_init 18 = .ok (.invokespecial 17, 3) := by decide +kernel
theorem dX7_init_21 : decode cX7_init 21 = .ok (.putfield 18, 3) := by decide +kernel
theorem dX7_init_24 : decode cX7_init 24 = .ok (.aload_n 0, 1) := by decide +kernel
theorem dX7_init_25 : decode cX7_init 25 = .ok (.new 22, 3) := by decide +kernel
theorem dX7_init_28 : decode cX7_init 28 = .ok (.dup, 1) := by decide +kernel
theorem dX7_init_29 : decode cX7_init 29 = .ok (.invokespecial 24, 3) := by decide +kernel
theorem dX7_init_32 : decode cX7_init 32 = .ok (.putfield 25, 3) := by decide +kernel
theorem dX7_init_35 : decode cX7_init 35 = .ok (.aload_n 0, 1) := by decide +kernel
theorem dX7_init_36 : decode cX7_init 36 = .ok (.new 29, 3) := by decide +kernel
theorem dX7_init_39 : decode cX7_init 39 = .ok (.dup, 1) := by decide +kernel
theorem dX7_init_40 : decode cX7_init 40 = .ok (.invokespecial 31, 3) := by decide +kernel
theorem dX7_init_43 : decode cX7_init 43 = .ok (.putfield 32, 3) := by decide +kernel
theorem dX7_init_46 : decode cX7_init 46 = .ok (.aload_n 0, 1) := by decide +kernel
theorem dX7_init_47 : decode cX7_init 47 = .ok (.bipush 6, 2) := by decide +kernel
theorem dX7_init_49 : decode cX7_init 49 = .ok (.newarray .int, 2) := by decide +kernel
theorem dX7_init_51 : decode cX7_init 51 = .ok (.putfield 36, 3) := by decide +kernel
theorem dX7_init_54 : decode cX7_init 54 = .ok (.iconst 0, 1) := by decide +kernel
theorem dX7_init_55 : decode cX7_init 55 = .ok (.istore_n 1, 1) := by decide +kernel
theorem dX7_init_56 : decode cX7_init 56 = .ok (.iload_n 1, 1) := by decide +kernel
theorem dX7_init_57 : decode cX7_init 57 = .ok (.aload_n 0, 1) := by decide +kernel
theorem dX7_init_58 : decode cX7_init 58 = .ok (.getfield 36, 3) := by decide +kernel
theorem dX7_init_61 : decode cX7_init 61 = .ok (.arraylength, 1) := by decide +kernel
theorem dX7_init_62 : decode cX7_init 62 = .ok (.if_icmp .ge 16, 3) := by decide +kernel
theorem dX7_init_65 : decode cX7_init 65 = .ok (.aload_n 0, 1) := by decide +kernel
theorem dX7_init_66 : decode cX7_init 66 = .ok (.getfield 36, 3) := by decide +kernel
theorem dX7_init_69 : decode cX7_init 69 = .ok (.iload_n 1, 1) := by decide +kernel
theorem dX7_init_70 : decode cX7_init 70 = .ok (.iconst 1, 1) := by decide +kernel
theorem dX7_init_71 : decode cX7_init 71 = .ok (.iastore, 1) := by decide +kernel
theorem dX7_init_72 : decode cX7_init 72 = .ok (.iinc 1 1, 3) := by decide +kernel
theorem dX7_init_75 : decode cX7_init 75 = .ok (.goto (-19), 3) := by decide +kernel
theorem dX7_init_78 : decode cX7_init 78 = .ok (.aload_n 0, 1) := by decide +kernel
theorem dX7_init_79 : decode cX7_init 79 = .ok (.iconst (-1), 1) := by decide +kernel
theorem dX7_init_80 : decode cX7_init 80 = .ok (.putfield 40, 3) := by decide +kernel
theorem dX7_init_83 : decode cX7_init 83 = .ok (.return_, 1) := by decide +kernel
theorem dX7_receive_0 : decode cX7_receive 0 = .ok (.iload_n 2, 1) := by decide +kernel
theorem dX7_receive_1 : decode cX7_receive 1 = .ok (.iload_n 1, 1) := by decide +kernel
theorem dX7_receive_2 : decode cX7_receive 2 = .ok (.invokestatic 44, 3) := by decide +kernel
theorem dX7_receive_5 : decode cX7_receive 5 = .ok (.iload_n 3, 1) := by decide +kernel
theorem dX7_receive_6 : decode cX7_receive 6 = .ok (.iconst 1, 1) := by decide +kernel
theorem dX7_receive_7 : decode cX7_receive 7 = .ok (.sipush 1000, 3) := by decide +kernel
theorem dX7_receive_10 : decode cX7_receive 10 = .ok (.invokestatic 48, 3) := by decide +kernel
theorem dX7_receive_13 : decode cX7_receive 13 = .ok (.iload 4, 2) := by decide +kernel
theorem dX7_receive_15 : decode cX7_receive 15 = .ok (.iconst 0, 1) := by decide +kernel
theorem dX7_receive_16 : decode cX7_receive 16 = .ok (.ldc 52, 2) := by decide +kernel
theorem dX7_receive_18 : decode cX7_receive 18 = .ok (.invokestatic 48, 3) := by decide +kernel
theorem dX7_receive_21 : decode cX7_receive 21 = .ok (.aload_n 0, 1) := by decide +kernel
theorem dX7_receive_22 : decode cX7_receive 22 = .ok (.iload_n 1, 1) := by decide +kernel
theorem dX7_receive_23 : decode cX7_receive 23 = .ok (.invokevirtual 53, 3) := by decide +kernel
theorem dX7_receive_26 : decode cX7_receive 26 = .ok (.aload_n 0, 1) := by decide +kernel
theorem dX7_receive_27 : decode cX7_receive 27 = .ok (.new 9, 3) := by decide +kernel
theorem dX7_receive_30 : decode cX7_receive 30 = .ok (.dup, 1) := by decide +kernel
theorem dX7_receive_31 : decode cX7_receive 31 = .ok (.aload_n 0, 1) := by decide +kernel
theorem dX7_receive_32 : decode cX7_receive 32 = .ok (.getfield 57, 3) := by decide +kernel
theorem dX7_receive_35 : decode cX7_receive 35 = .ok (.iconst 0, 1) := by decide +kernel
theorem dX7_receive_36 : decode cX7_receive 36 = .ok (.iload_n 1, 1) := by decide +kernel
theorem dX7_receive_37 : decode cX7_receive 37 = .ok (.iload_n 2, 1) := by decide +kernel
theorem dX7_receive_38 : decode cX7_receive 38 = .ok (.iload_n 3, 1) := by decide +kernel
theorem dX7_receive_39 : decode cX7_receive 39 = .ok (.iload 4, 2) := by decide +kernel
theorem dX7_receive_41 : decode cX7_receive 41 = .ok (.invokespecial 60, 3) := by decide +kernel
theorem dX7_receive_44 : decode cX7_receive 44 = .ok (.invokevirtual 63, 3) := by decide +kernel
theorem dX7_receive_47 : decode cX7_receive 47 = .ok (.ireturn, 1) := by decide +kernel
theorem dX7_issue_0 : decode cX7_issue 0 = .ok (.iload_n 2, 1) := by decide +kernel
theorem dX7_issue_1 : decode cX7_issue 1 = .ok (.iload_n 1, 1) := by decide +kernel
theorem dX7_issue_2 : decode cX7_issue 2 = .ok (.invokestatic 44, 3) := by decide +kernel
theorem dX7_issue_5 : decode cX7_issue 5 = .ok (.iload_n 3, 1) := by decide +kernel
theorem dX7_issue_6 : decode cX7_issue 6 = .ok (.iconst 1, 1) := by decide +kernel
theorem dX7_issue_7 : decode cX7_issue 7 = .ok (.sipush 1000, 3) := by decide +kernel
theorem dX7_issue_10 : decode cX7_issue 10 = .ok (.invokestatic 48, 3) := by decide +kernel
theorem dX7_issue_13 : decode cX7_issue 13 = .ok (.aload_n 0, 1) := by decide +kernel
theorem dX7_issue_14 : decode cX7_issue 14 = .ok (.iload_n 1, 1) := by decide +kernel
theorem dX7_issue_15 : decode cX7_issue 15 = .ok (.invokevirtual 53, 3) := by decide +kernel
theorem dX7_issue_18 : decode cX7_issue 18 = .ok (.iload_n 3, 1) := by decide +kernel
theorem dX7_issue_19 : decode cX7_issue 19 = .ok (.aload_n 0, 1) := by decide +kernel
theorem dX7_issue_20 : decode cX7_issue 20 = .ok (.getfield 18, 3) := by decide +kernel
theorem dX7_issue_23 : decode cX7_issue 23 = .ok (.iload_n 2, 1) := by decide +kernel
theorem dX7_issue_24 : decode cX7_issue 24 = .ok (.iload_n 1, 1) := by decide +kernel
theorem dX7_issue_25 : decode cX7_issue 25 = .ok (.bipush 60, 2) := by decide +kernel
theorem dX7_issue_27 : decode cX7_issue 27 = .ok (.invokevirtual 67, 3) := by decide +kernel
theorem dX7_issue_30 : decode cX7_issue 30 = .ok (.invokestatic 71, 3) := by decide +kernel
theorem dX7_issue_33 : decode cX7_issue 33 = .ok (.aload_n 0, 1) := by decide +kernel
theorem dX7_issue_34 : decode cX7_issue 34 = .ok (.new 9, 3) := by decide +kernel
theorem dX7_issue_37 : decode cX7_issue 37 = .ok (.dup, 1) := by decide +kernel
theorem dX7_issue_38 : decode cX7_issue 38 = .ok (.aload_n 0, 1) := by decide +kernel
theorem dX7_issue_39 : decode cX7_issue 39 = .ok (.getfield 57, 3) := by decide +kernel
theorem dX7_issue_42 : decode cX7_issue 42 = .ok (.iconst 1, 1) := by decide +kernel
theorem dX7_issue_43 : decode cX7_issue 43 = .ok (.iload_n 1, 1) := by decide +kernel
theorem dX7_issue_44 : decode cX7_issue 44 = .ok (.iload_n 2, 1) := by decide +kernel
theorem dX7_issue_45 : decode cX7_issue 45 = .ok (.iload_n 3, 1) := by decide +kernel
theorem dX7_issue_46 : decode cX7_issue 46 = .ok (.iconst 0, 1) := by decide +kernel
theorem dX7_issue_47 : decode cX7_issue 47 = .ok (.invokespecial 60, 3) := by decide +kernel
theorem dX7_issue_50 : decode cX7_issue 50 = .ok (.invokevirtual 63, 3) := by decide +kernel
theorem dX7_issue_53 : decode cX7_issue 53 = .ok (.ireturn, 1) := by decide +kernel
theorem dX7_revalue_0 : decode cX7_revalue 0 = .ok (.iload_n 2, 1) := by decide +kernel
theorem dX7_revalue_1 : decode cX7_revalue 1 = .ok (.iload_n 1, 1) := by decide +kernel
theorem dX7_revalue_2 : decode cX7_revalue 2 = .ok (.invokestatic 44, 3) := by decide +kernel
theorem dX7_revalue_5 : decode cX7_revalue 5 = .ok (.iload_n 3, 1) := by decide +kernel
theorem dX7_revalue_6 : decode cX7_revalue 6 = .ok (.iconst 1, 1) := by decide +kernel
theorem dX7_revalue_7 : decode cX7_revalue 7 = .ok (.sipush 1000, 3) := by decide +kernel
theorem dX7_revalue_10 : decode cX7_revalue 10 = .ok (.invokestatic 48, 3) := by decide +kernel
theorem dX7_revalue_13 : decode cX7_revalue 13 = .ok (.iload 4, 2) := by decide +kernel
theorem dX7_revalue_15 : decode cX7_revalue 15 = .ok (.iconst 0, 1) := by decide +kernel
theorem dX7_revalue_16 : decode cX7_revalue 16 = .ok (.ldc 52, 2) := by decide +kernel
theorem dX7_revalue_18 : decode cX7_revalue 18 = .ok (.invokestatic 48, 3) := by decide +kernel
theorem dX7_revalue_21 : decode cX7_revalue 21 = .ok (.aload_n 0, 1) := by decide +kernel
theorem dX7_revalue_22 : decode cX7_revalue 22 = .ok (.iload_n 1, 1) := by decide +kernel
theorem dX7_revalue_23 : decode cX7_revalue 23 = .ok (.invokevirtual 53, 3) := by decide +kernel
theorem dX7_revalue_26 : decode cX7_revalue 26 = .ok (.iload_n 3, 1) := by decide +kernel
theorem dX7_revalue_27 : decode cX7_revalue 27 = .ok (.aload_n 0, 1) := by decide +kernel
theorem dX7_revalue_28 : decode cX7_revalue 28 = .ok (.getfield 18, 3) := by decide +kernel
theorem dX7_revalue_31 : decode cX7_revalue 31 = .ok (.iload_n 2, 1) := by decide +kernel
theorem dX7_revalue_32 : decode cX7_revalue 32 = .ok (.iload_n 1, 1) := by decide +kernel
theorem dX7_revalue_33 : decode cX7_revalue 33 = .ok (.invokevirtual 74, 3) := by decide +kernel
theorem dX7_revalue_36 : decode cX7_revalue 36 = .ok (.invokestatic 71, 3) := by decide +kernel
theorem dX7_revalue_39 : decode cX7_revalue 39 = .ok (.aload_n 0, 1) := by decide +kernel
theorem dX7_revalue_40 : decode cX7_revalue 40 = .ok (.new 9, 3) := by decide +kernel
theorem dX7_revalue_43 : decode cX7_revalue 43 = .ok (.dup, 1) := by decide +kernel
theorem dX7_revalue_44 : decode cX7_revalue 44 = .ok (.aload_n 0, 1) := by decide +kernel
theorem dX7_revalue_45 : decode cX7_revalue 45 = .ok (.getfield 57, 3) := by decide +kernel
theorem dX7_revalue_48 : decode cX7_revalue 48 = .ok (.iconst 2, 1) := by decide +kernel
theorem dX7_revalue_49 : decode cX7_revalue 49 = .ok (.iload_n 1, 1) := by decide +kernel
theorem dX7_revalue_50 : decode cX7_revalue 50 = .ok (.iload_n 2, 1) := by decide +kernel
theorem dX7_revalue_51 : decode cX7_revalue 51 = .ok (.iload_n 3, 1) := by decide +kernel
theorem dX7_revalue_52 : decode cX7_revalue 52 = .ok (.iload 4, 2) := by decide +kernel
theorem dX7_revalue_54 : decode cX7_revalue 54 = .ok (.invokespecial 60, 3) := by decide +kernel
theorem dX7_revalue_57 : decode cX7_revalue 57 = .ok (.invokevirtual 63, 3) := by decide +kernel
theorem dX7_revalue_60 : decode cX7_revalue 60 = .ok (.ireturn, 1) := by decide +kernel
theorem dX7_land_0 : decode cX7_land 0 = .ok (.iload_n 1, 1) := by decide +kernel
theorem dX7_land_1 : decode cX7_land 1 = .ok (.iconst 0, 1) := by decide +kernel
theorem dX7_land_2 : decode cX7_land 2 = .ok (.sipush 364, 3) := by decide +kernel
theorem dX7_land_5 : decode cX7_land 5 = .ok (.invokestatic 48, 3) := by decide +kernel
theorem dX7_land_8 : decode cX7_land 8 = .ok (.iload_n 2, 1) := by decide +kernel
theorem dX7_land_9 : decode cX7_land 9 = .ok (.iconst 1, 1) := by decide +kernel
theorem dX7_land_10 : decode cX7_land 10 = .ok (.ldc 52, 2) := by decide +kernel
theorem dX7_land_12 : decode cX7_land 12 = .ok (.invokestatic 48, 3) := by decide +kernel
theorem dX7_land_15 : decode cX7_land 15 = .ok (.iload_n 3, 1) := by decide +kernel
theorem dX7_land_16 : decode cX7_land 16 = .ok (.iconst 0, 1) := by decide +kernel
theorem dX7_land_17 : decode cX7_land 17 = .ok (.iconst 2, 1) := by decide +kernel
theorem dX7_land_18 : decode cX7_land 18 = .ok (.invokestatic 48, 3) := by decide +kernel
theorem dX7_land_21 : decode cX7_land 21 = .ok (.lload 4, 2) := by decide +kernel
theorem dX7_land_23 : decode cX7_land 23 = .ok (.lconst 0, 1) := by decide +kernel
theorem dX7_land_24 : decode cX7_land 24 = .ok (.lcmp, 1) := by decide +kernel
theorem dX7_land_25 : decode cX7_land 25 = .ok (.ifCond .ne 13, 3) := by decide +kernel
theorem dX7_land_28 : decode cX7_land 28 = .ok (.new 78, 3) := by decide +kernel
theorem dX7_land_31 : decode cX7_land 31 = .ok (.dup, 1) := by decide +kernel
theorem dX7_land_32 : decode cX7_land 32 = .ok (.ldc 80, 2) := by decide +kernel
theorem dX7_land_34 : decode cX7_land 34 = .ok (.invokespecial 82, 3) := by decide +kernel
theorem dX7_land_37 : decode cX7_land 37 = .ok (.athrow, 1) := by decide +kernel
theorem dX7_land_38 : decode cX7_land 38 = .ok (.lload 4, 2) := by decide +kernel
theorem dX7_land_40 : decode cX7_land 40 = .ok (.aload_n 0, 1) := by decide +kernel
theorem dX7_land_41 : decode cX7_land 41 = .ok (.getfield 57, 3) := by decide +kernel
theorem dX7_land_44 : decode cX7_land 44 = .ok (.lushr, 1) := by decide +kernel
theorem dX7_land_45 : decode cX7_land 45 = .ok (.lconst 0, 1) := by decide +kernel
