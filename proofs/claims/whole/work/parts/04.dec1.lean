theorem dX0_init_0 : decode cX0_init 0 = .ok (.aload_n 0, 1) := by decide +kernel
theorem dX0_init_1 : decode cX0_init 1 = .ok (.invokespecial 1, 3) := by decide +kernel
theorem dX0_init_4 : decode cX0_init 4 = .ok (.return_, 1) := by decide +kernel
theorem dX0_empty_0 : decode cX0_empty 0 = .ok (.aload_n 0, 1) := by decide +kernel
theorem dX0_empty_1 : decode cX0_empty 1 = .ok (.aconst_null, 1) := by decide +kernel
theorem dX0_empty_2 : decode cX0_empty 2 = .ok (.putfield 7, 3) := by decide +kernel
theorem dX0_empty_5 : decode cX0_empty 5 = .ok (.aload_n 0, 1) := by decide +kernel
theorem dX0_empty_6 : decode cX0_empty 6 = .ok (.aconst_null, 1) := by decide +kernel
theorem dX0_empty_7 : decode cX0_empty 7 = .ok (.putfield 13, 3) := by decide +kernel
theorem dX0_empty_10 : decode cX0_empty 10 = .ok (.return_, 1) := by decide +kernel
theorem dX0_bring_0 : decode cX0_bring 0 = .ok (.aload_n 1, 1) := by decide +kernel
theorem dX0_bring_1 : decode cX0_bring 1 = .ok (.getfield 16, 3) := by decide +kernel
theorem dX0_bring_4 : decode cX0_bring 4 = .ok (.astore_n 2, 1) := by decide +kernel
theorem dX0_bring_5 : decode cX0_bring 5 = .ok (.aload_n 2, 1) := by decide +kernel
theorem dX0_bring_6 : decode cX0_bring 6 = .ok (.aload_n 1, 1) := by decide +kernel
theorem dX0_bring_7 : decode cX0_bring 7 = .ok (.getfield 21, 3) := by decide +kernel
theorem dX0_bring_10 : decode cX0_bring 10 = .ok (.aload_n 1, 1) := by decide +kernel
theorem dX0_bring_11 : decode cX0_bring 11 = .ok (.getfield 25, 3) := by decide +kernel
theorem dX0_bring_14 : decode cX0_bring 14 = .ok (.i2l, 1) := by decide +kernel
theorem dX0_bring_15 : decode cX0_bring 15 = .ok (.aconst_null, 1) := by decide +kernel
theorem dX0_bring_16 : decode cX0_bring 16 = .ok (.invokevirtual 28, 3) := by decide +kernel
theorem dX0_bring_19 : decode cX0_bring 19 = .ok (.aload_n 0, 1) := by decide +kernel
theorem dX0_bring_20 : decode cX0_bring 20 = .ok (.getfield 13, 3) := by decide +kernel
theorem dX0_bring_23 : decode cX0_bring 23 = .ok (.ifnonnull 11, 3) := by decide +kernel
theorem dX0_bring_26 : decode cX0_bring 26 = .ok (.aload_n 0, 1) := by decide +kernel
theorem dX0_bring_27 : decode cX0_bring 27 = .ok (.aload_n 2, 1) := by decide +kernel
theorem dX0_bring_28 : decode cX0_bring 28 = .ok (.putfield 7, 3) := by decide +kernel
theorem dX0_bring_31 : decode cX0_bring 31 = .ok (.goto 11, 3) := by decide +kernel
theorem dX0_bring_34 : decode cX0_bring 34 = .ok (.aload_n 0, 1) := by decide +kernel
theorem dX0_bring_35 : decode cX0_bring 35 = .ok (.getfield 13, 3) := by decide +kernel
theorem dX0_bring_38 : decode cX0_bring 38 = .ok (.aload_n 2, 1) := by decide +kernel
theorem dX0_bring_39 : decode cX0_bring 39 = .ok (.putfield 34, 3) := by decide +kernel
theorem dX0_bring_42 : decode cX0_bring 42 = .ok (.aload_n 0, 1) := by decide +kernel
theorem dX0_bring_43 : decode cX0_bring 43 = .ok (.aload_n 2, 1) := by decide +kernel
theorem dX0_bring_44 : decode cX0_bring 44 = .ok (.putfield 13, 3) := by decide +kernel
theorem dX0_bring_47 : decode cX0_bring 47 = .ok (.return_, 1) := by decide +kernel
theorem dX0_take_0 : decode cX0_take 0 = .ok (.lconst 0, 1) := by decide +kernel
theorem dX0_take_1 : decode cX0_take 1 = .ok (.lstore_n 2, 1) := by decide +kernel
theorem dX0_take_2 : decode cX0_take 2 = .ok (.iload_n 1, 1) := by decide +kernel
theorem dX0_take_3 : decode cX0_take 3 = .ok (.istore 4, 2) := by decide +kernel
theorem dX0_take_5 : decode cX0_take 5 = .ok (.aload_n 0, 1) := by decide +kernel
theorem dX0_take_6 : decode cX0_take 6 = .ok (.getfield 7, 3) := by decide +kernel
theorem dX0_take_9 : decode cX0_take 9 = .ok (.astore 5, 2) := by decide +kernel
theorem dX0_take_11 : decode cX0_take 11 = .ok (.aload 5, 2) := by decide +kernel
theorem dX0_take_13 : decode cX0_take 13 = .ok (.ifnull 69, 3) := by decide +kernel
theorem dX0_take_16 : decode cX0_take 16 = .ok (.iload 4, 2) := by decide +kernel
theorem dX0_take_18 : decode cX0_take 18 = .ok (.ifCond .le 64, 3) := by decide +kernel
theorem dX0_take_21 : decode cX0_take 21 = .ok (.iload 4, 2) := by decide +kernel
theorem dX0_take_23 : decode cX0_take 23 = .ok (.aload 5, 2) := by decide +kernel
theorem dX0_take_25 : decode cX0_take 25 = .ok (.getfield 37, 3) := by decide +kernel
theorem dX0_take_28 : decode cX0_take 28 = .ok (.invokestatic 40, 3) := by decide +kernel
theorem dX0_take_31 : decode cX0_take 31 = .ok (.istore 6, 2) := by decide +kernel
theorem dX0_take_33 : decode cX0_take 33 = .ok (.lload_n 2, 1) := by decide +kernel
theorem dX0_take_34 : decode cX0_take 34 = .ok (.aload 5, 2) := by decide +kernel
theorem dX0_take_36 : decode cX0_take 36 = .ok (.iload 6, 2) := by decide +kernel
theorem dX0_take_38 : decode cX0_take 38 = .ok (.invokevirtual 46, 3) := by decide +kernel
theorem dX0_take_41 : decode cX0_take 41 = .ok (.ladd, 1) := by decide +kernel
theorem dX0_take_42 : decode cX0_take 42 = .ok (.lstore_n 2, 1) := by decide +kernel
theorem dX0_take_43 : decode cX0_take 43 = .ok (.iload 4, 2) := by decide +kernel
theorem dX0_take_45 : decode cX0_take 45 = .ok (.iload 6, 2) := by decide +kernel
theorem dX0_take_47 : decode cX0_take 47 = .ok (.isub, 1) := by decide +kernel
theorem dX0_take_48 : decode cX0_take 48 = .ok (.istore 4, 2) := by decide +kernel
theorem dX0_take_50 : decode cX0_take 50 = .ok (.aload_n 0, 1) := by decide +kernel
theorem dX0_take_51 : decode cX0_take 51 = .ok (.aload 5, 2) := by decide +kernel
theorem dX0_take_53 : decode cX0_take 53 = .ok (.getfield 37, 3) := by decide +kernel
theorem dX0_take_56 : decode cX0_take 56 = .ok (.ifCond .le 8, 3) := by decide +kernel
theorem dX0_take_59 : decode cX0_take 59 = .ok (.aload 5, 2) := by decide +kernel
theorem dX0_take_61 : decode cX0_take 61 = .ok (.goto 8, 3) := by decide +kernel
theorem dX0_take_64 : decode cX0_take 64 = .ok (.aload 5, 2) := by decide +kernel
theorem dX0_take_66 : decode cX0_take 66 = .ok (.getfield 34, 3) := by decide +kernel
theorem dX0_take_69 : decode cX0_take 69 = .ok (.putfield 7, 3) := by decide +kernel
theorem dX0_take_72 : decode cX0_take 72 = .ok (.aload 5, 2) := by decide +kernel
theorem dX0_take_74 : decode cX0_take 74 = .ok (.getfield 34, 3) := by decide +kernel
theorem dX0_take_77 : decode cX0_take 77 = .ok (.astore 5, 2) := by decide +kernel
theorem dX0_take_79 : decode cX0_take 79 = .ok (.goto (-68), 3) := by decide +kernel
theorem dX0_take_82 : decode cX0_take 82 = .ok (.aload_n 0, 1) := by decide +kernel
theorem dX0_take_83 : decode cX0_take 83 = .ok (.getfield 7, 3) := by decide +kernel
theorem dX0_take_86 : decode cX0_take 86 = .ok (.ifnonnull 8, 3) := by decide +kernel
theorem dX0_take_89 : decode cX0_take 89 = .ok (.aload_n 0, 1) := by decide +kernel
theorem dX0_take_90 : decode cX0_take 90 = .ok (.aconst_null, 1) := by decide +kernel
theorem dX0_take_91 : decode cX0_take 91 = .ok (.putfield 13, 3) := by decide +kernel
theorem dX0_take_94 : decode cX0_take 94 = .ok (.lload_n 2, 1) := by decide +kernel
theorem dX0_take_95 : decode cX0_take 95 = .ok (.lreturn, 1) := by decide +kernel
theorem dX0_bringBack_0 : decode cX0_bringBack 0 = .ok (.aload_n 1, 1) := by decide +kernel
theorem dX0_bringBack_1 : decode cX0_bringBack 1 = .ok (.getfield 16, 3) := by decide +kernel
theorem dX0_bringBack_4 : decode cX0_bringBack 4 = .ok (.astore_n 2, 1) := by decide +kernel
theorem dX0_bringBack_5 : decode cX0_bringBack 5 = .ok (.aload_n 2, 1) := by decide +kernel
theorem dX0_bringBack_6 : decode cX0_bringBack 6 = .ok (.aload_n 1, 1) := by decide +kernel
theorem dX0_bringBack_7 : decode cX0_bringBack 7 = .ok (.getfield 21, 3) := by decide +kernel
theorem dX0_bringBack_10 : decode cX0_bringBack 10 = .ok (.aload_n 1, 1) := by decide +kernel
theorem dX0_bringBack_11 : decode cX0_bringBack 11 = .ok (.getfield 25, 3) := by decide +kernel
theorem dX0_bringBack_14 : decode cX0_bringBack 14 = .ok (.i2l, 1) := by decide +kernel
theorem dX0_bringBack_15 : decode cX0_bringBack 15 = .ok (.aload_n 0, 1) := by decide +kernel
theorem dX0_bringBack_16 : decode cX0_bringBack 16 = .ok (.getfield 7, 3) := by decide +kernel
theorem dX0_bringBack_19 : decode cX0_bringBack 19 = .ok (.invokevirtual 28, 3) := by decide +kernel
theorem dX0_bringBack_22 : decode cX0_bringBack 22 = .ok (.aload_n 0, 1) := by decide +kernel
theorem dX0_bringBack_23 : decode cX0_bringBack 23 = .ok (.aload_n 2, 1) := by decide +kernel
theorem dX0_bringBack_24 : decode cX0_bringBack 24 = .ok (.putfield 7, 3) := by decide +kernel
theorem dX0_bringBack_27 : decode cX0_bringBack 27 = .ok (.aload_n 0, 1) := by decide +kernel
theorem dX0_bringBack_28 : decode cX0_bringBack 28 = .ok (.getfield 13, 3) := by decide +kernel
theorem dX0_bringBack_31 : decode cX0_bringBack 31 = .ok (.ifnonnull 8, 3) := by decide +kernel
theorem dX0_bringBack_34 : decode cX0_bringBack 34 = .ok (.aload_n 0, 1) := by decide +kernel
theorem dX0_bringBack_35 : decode cX0_bringBack 35 = .ok (.aload_n 2, 1) := by decide +kernel
theorem dX0_bringBack_36 : decode cX0_bringBack 36 = .ok (.putfield 13, 3) := by decide +kernel
theorem dX0_bringBack_39 : decode cX0_bringBack 39 = .ok (.return_, 1) := by decide +kernel
theorem dX0_absorb_0 : decode cX0_absorb 0 = .ok (.aload_n 1, 1) := by decide +kernel
theorem dX0_absorb_1 : decode cX0_absorb 1 = .ok (.getfield 16, 3) := by decide +kernel
theorem dX0_absorb_4 : decode cX0_absorb 4 = .ok (.astore_n 3, 1) := by decide +kernel
theorem dX0_absorb_5 : decode cX0_absorb 5 = .ok (.aload_n 1, 1) := by decide +kernel
theorem dX0_absorb_6 : decode cX0_absorb 6 = .ok (.iload_n 2, 1) := by decide +kernel
theorem dX0_absorb_7 : decode cX0_absorb 7 = .ok (.aload_n 3, 1) := by decide +kernel
theorem dX0_absorb_8 : decode cX0_absorb 8 = .ok (.getfield 37, 3) := by decide +kernel
theorem dX0_absorb_11 : decode cX0_absorb 11 = .ok (.invokestatic 50, 3) := by decide +kernel
theorem dX0_absorb_14 : decode cX0_absorb 14 = .ok (.lstore 4, 2) := by decide +kernel
theorem dX0_absorb_16 : decode cX0_absorb 16 = .ok (.aload_n 3, 1) := by decide +kernel
theorem dX0_absorb_17 : decode cX0_absorb 17 = .ok (.dup, 1) := by decide +kernel
theorem dX0_absorb_18 : decode cX0_absorb 18 = .ok (.getfield 54, 3) := by decide +kernel
theorem dX0_absorb_21 : decode cX0_absorb 21 = .ok (.lload 4, 2) := by decide +kernel
theorem dX0_absorb_23 : decode cX0_absorb 23 = .ok (.ladd, 1) := by decide +kernel
theorem dX0_absorb_24 : decode cX0_absorb 24 = .ok (.putfield 54, 3) := by decide +kernel
theorem dX0_absorb_27 : decode cX0_absorb 27 = .ok (.lload 4, 2) := by decide +kernel
theorem dX0_absorb_29 : decode cX0_absorb 29 = .ok (.lreturn, 1) := by decide +kernel
theorem dX0_worth_0 : decode cX0_worth 0 = .ok (.lconst 0, 1) := by decide +kernel
theorem dX0_worth_1 : decode cX0_worth 1 = .ok (.lstore_n 1, 1) := by decide +kernel
theorem dX0_worth_2 : decode cX0_worth 2 = .ok (.aload_n 0, 1) := by decide +kernel
theorem dX0_worth_3 : decode cX0_worth 3 = .ok (.getfield 7, 3) := by decide +kernel
theorem dX0_worth_6 : decode cX0_worth 6 = .ok (.astore_n 3, 1) := by decide +kernel
theorem dX0_worth_7 : decode cX0_worth 7 = .ok (.aload_n 3, 1) := by decide +kernel
theorem dX0_worth_8 : decode cX0_worth 8 = .ok (.ifnull 18, 3) := by decide +kernel
theorem dX0_worth_11 : decode cX0_worth 11 = .ok (.lload_n 1, 1) := by decide +kernel
theorem dX0_worth_12 : decode cX0_worth 12 = .ok (.aload_n 3, 1) := by decide +kernel
theorem dX0_worth_13 : decode cX0_worth 13 = .ok (.getfield 54, 3) := by decide +kernel
theorem dX0_worth_16 : decode cX0_worth 16 = .ok (.ladd, 1) := by decide +kernel
theorem dX0_worth_17 : decode cX0_worth 17 = .ok (.lstore_n 1, 1) := by decide +kernel
theorem dX0_worth_18 : decode cX0_worth 18 = .ok (.aload_n 3, 1) := by decide +kernel
theorem dX0_worth_19 : decode cX0_worth 19 = .ok (.getfield 34, 3) := by decide +kernel
theorem dX0_worth_22 : decode cX0_worth 22 = .ok (.astore_n 3, 1) := by decide +kernel
theorem dX0_worth_23 : decode cX0_worth 23 = .ok (.goto (-16), 3) := by decide +kernel
theorem dX0_worth_26 : decode cX0_worth 26 = .ok (.lload_n 1, 1) := by decide +kernel
theorem dX0_worth_27 : decode cX0_worth 27 = .ok (.lreturn, 1) := by decide +kernel
theorem dX0_length_0 : decode cX0_length 0 = .ok (.iconst 0, 1) := by decide +kernel
theorem dX0_length_1 : decode cX0_length 1 = .ok (.istore_n 1, 1) := by decide +kernel
theorem dX0_length_2 : decode cX0_length 2 = .ok (.aload_n 0, 1) := by decide +kernel
theorem dX0_length_3 : decode cX0_length 3 = .ok (.getfield 7, 3) := by decide +kernel
theorem dX0_length_6 : decode cX0_length 6 = .ok (.astore_n 2, 1) := by decide +kernel
theorem dX0_length_7 : decode cX0_length 7 = .ok (.aload_n 2, 1) := by decide +kernel
theorem dX0_length_8 : decode cX0_length 8 = .ok (.ifnull 14, 3) := by decide +kernel
theorem dX0_length_11 : decode cX0_length 11 = .ok (.iinc 1 1, 3) := by decide +kernel
theorem dX0_length_14 : decode cX0_length 14 = .ok (.aload_n 2, 1) := by decide +kernel
theorem dX0_length_15 : decode cX0_length 15 = .ok (.getfield 34, 3) := by decide +kernel
theorem dX0_length_18 : decode cX0_length 18 = .ok (.astore_n 2, 1) := by decide +kernel
theorem dX0_length_19 : decode cX0_length 19 = .ok (.goto (-12), 3) := by decide +kernel
theorem dX0_length_22 : decode cX0_length 22 = .ok (.iload_n 1, 1) := by decide +kernel
theorem dX0_length_23 : decode cX0_length 23 = .ok (.ireturn, 1) := by decide +kernel
theorem dX0_layerAt_0 : decode cX0_layerAt 0 = .ok (.iload_n 1, 1) := by decide +kernel
theorem dX0_layerAt_1 : decode cX0_layerAt 1 = .ok (.ifCond .ge 7, 3) := by decide +kernel
theorem dX0_layerAt_4 : decode cX0_layerAt 4 = .ok (.aconst_null, 1) := by decide +kernel
theorem dX0_layerAt_5 : decode cX0_layerAt 5 = .ok (.goto 7, 3) := by decide +kernel
theorem dX0_layerAt_8 : decode cX0_layerAt 8 = .ok (.aload_n 0, 1) := by decide +kernel
theorem dX0_layerAt_9 : decode cX0_layerAt 9 = .ok (.getfield 7, 3) := by decide +kernel
theorem dX0_layerAt_12 : decode cX0_layerAt 12 = .ok (.astore_n 2, 1) := by decide +kernel
theorem dX0_layerAt_13 : decode cX0_layerAt 13 = .ok (.iconst 0, 1) := by decide +kernel
theorem dX0_layerAt_14 : decode cX0_layerAt 14 = .ok (.istore_n 3, 1) := by decide +kernel
theorem dX0_layerAt_15 : decode cX0_layerAt 15 = .ok (.iload_n 3, 1) := by decide +kernel
theorem dX0_layerAt_16 : decode cX0_layerAt 16 = .ok (.iload_n 1, 1) := by decide +kernel
theorem dX0_layerAt_17 : decode cX0_layerAt 17 = .ok (.if_icmp .ge 18, 3) := by decide +kernel
theorem dX0_layerAt_20 : decode cX0_layerAt 20 = .ok (.aload_n 2, 1) := by decide +kernel
theorem dX0_layerAt_21 : decode cX0_layerAt 21 = .ok (.ifnull 14, 3) := by decide +kernel
theorem dX0_layerAt_24 : decode cX0_layerAt 24 = .ok (.aload_n 2, 1) := by decide +kernel
theorem dX0_layerAt_25 : decode cX0_layerAt 25 = .ok (.getfield 34, 3) := by decide +kernel
theorem dX0_layerAt_28 : decode cX0_layerAt 28 = .ok (.astore_n 2, 1) := by decide +kernel
theorem dX0_layerAt_29 : decode cX0_layerAt 29 = .ok (.iinc 3 1, 3) := by decide +kernel
theorem dX0_layerAt_32 : decode cX0_layerAt 32 = .ok (.goto (-17), 3) := by decide +kernel
theorem dX0_layerAt_35 : decode cX0_layerAt 35 = .ok (.aload_n 2, 1) := by decide +kernel
theorem dX0_layerAt_36 : decode cX0_layerAt 36 = .ok (.areturn, 1) := by decide +kernel
theorem dX1_init_0 : decode cX1_init 0 = .ok (.aload_n 0, 1) := by decide +kernel
theorem dX1_init_1 : decode cX1_init 1 = .ok (.invokespecial 1, 3) := by decide +kernel
theorem dX1_init_4 : decode cX1_init 4 = .ok (.aload_n 0, 1) := by decide +kernel
theorem dX1_init_5 : decode cX1_init 5 = .ok (.iload_n 1, 1) := by decide +kernel
theorem dX1_init_6 : decode cX1_init 6 = .ok (.putfield 7, 3) := by decide +kernel
theorem dX1_init_9 : decode cX1_init 9 = .ok (.return_, 1) := by decide +kernel
theorem dX1_fill_0 : decode cX1_fill 0 = .ok (.aload_n 0, 1) := by decide +kernel
theorem dX1_fill_1 : decode cX1_fill 1 = .ok (.iload_n 1, 1) := by decide +kernel
theorem dX1_fill_2 : decode cX1_fill 2 = .ok (.putfield 13, 3) := by decide +kernel
theorem dX1_fill_5 : decode cX1_fill 5 = .ok (.aload_n 0, 1) := by decide +kernel
theorem dX1_fill_6 : decode cX1_fill 6 = .ok (.lload_n 2, 1) := by decide +kernel
theorem dX1_fill_7 : decode cX1_fill 7 = .ok (.putfield 16, 3) := by decide +kernel
theorem dX1_fill_10 : decode cX1_fill 10 = .ok (.aload_n 0, 1) := by decide +kernel
theorem dX1_fill_11 : decode cX1_fill 11 = .ok (.aload 4, 2) := by decide +kernel
theorem dX1_fill_13 : decode cX1_fill 13 = .ok (.putfield 20, 3) := by decide +kernel
theorem dX1_fill_16 : decode cX1_fill 16 = .ok (.return_, 1) := by decide +kernel
theorem dX1_take_0 : decode cX1_take 0 = .ok (.aload_n 0, 1) := by decide +kernel
theorem dX1_take_1 : decode cX1_take 1 = .ok (.getfield 13, 3) := by decide +kernel
theorem dX1_take_4 : decode cX1_take 4 = .ok (.ifCond .le 19, 3) := by decide +kernel
theorem dX1_take_7 : decode cX1_take 7 = .ok (.aload_n 0, 1) := by decide +kernel
theorem dX1_take_8 : decode cX1_take 8 = .ok (.getfield 16, 3) := by decide +kernel
theorem dX1_take_11 : decode cX1_take 11 = .ok (.iload_n 1, 1) := by decide +kernel
theorem dX1_take_12 : decode cX1_take 12 = .ok (.i2l, 1) := by decide +kernel
theorem dX1_take_13 : decode cX1_take 13 = .ok (.lmul, 1) := by decide +kernel
theorem dX1_take_14 : decode cX1_take 14 = .ok (.aload_n 0, 1) := by decide +kernel
theorem dX1_take_15 : decode cX1_take 15 = .ok (.getfield 13, 3) := by decide +kernel
theorem dX1_take_18 : decode cX1_take 18 = .ok (.i2l, 1) := by decide +kernel
theorem dX1_take_19 : decode cX1_take 19 = .ok (.ldiv, 1) := by decide +kernel
theorem dX1_take_20 : decode cX1_take 20 = .ok (.goto 4, 3) := by decide +kernel
theorem dX1_take_23 : decode cX1_take 23 = .ok (.lconst 0, 1) := by decide +kernel
theorem dX1_take_24 : decode cX1_take 24 = .ok (.lstore_n 2, 1) := by decide +kernel
theorem dX1_take_25 : decode cX1_take 25 = .ok (.aload_n 0, 1) := by decide +kernel
theorem dX1_take_26 : decode cX1_take 26 = .ok (.dup, 1) := by decide +kernel
theorem dX1_take_27 : decode cX1_take 27 = .ok (.getfield 13, 3) := by decide +kernel
theorem dX1_take_30 : decode cX1_take 30 = .ok (.iload_n 1, 1) := by decide +kernel
theorem dX1_take_31 : decode cX1_take 31 = .ok (.isub, 1) := by decide +kernel
theorem dX1_take_32 : decode cX1_take 32 = .ok (.putfield 13, 3) := by decide +kernel
theorem dX1_take_35 : decode cX1_take 35 = .ok (.aload_n 0, 1) := by decide +kernel
theorem dX1_take_36 : decode cX1_take 36 = .ok (.dup, 1) := by decide +kernel
theorem dX1_take_37 : decode cX1_take 37 = .ok (.getfield 16, 3) := by decide +kernel
theorem dX1_take_40 : decode cX1_take 40 = .ok (.lload_n 2, 1) := by decide +kernel
theorem dX1_take_41 : decode cX1_take 41 = .ok (.lsub, 1) := by decide +kernel
theorem dX1_take_42 : decode cX1_take 42 = .ok (.putfield 16, 3) := by decide +kernel
theorem dX1_take_45 : decode cX1_take 45 = .ok (.lload_n 2, 1) := by decide +kernel
theorem dX1_take_46 : decode cX1_take 46 = .ok (.lreturn, 1) := by decide +kernel
theorem dX2_init_0 : decode cX2_init 0 = .ok (.aload_n 0, 1) := by decide +kernel
theorem dX2_init_1 : decode cX2_init 1 = .ok (.invokespecial 1, 3) := by decide +kernel
theorem dX2_init_4 : decode cX2_init 4 = .ok (.return_, 1) := by decide +kernel
theorem dX2_insert_0 : decode cX2_insert 0 = .ok (.aconst_null, 1) := by decide +kernel
theorem dX2_insert_1 : decode cX2_insert 1 = .ok (.astore_n 2, 1) := by decide +kernel
theorem dX2_insert_2 : decode cX2_insert 2 = .ok (.aload_n 0, 1) := by decide +kernel
theorem dX2_insert_3 : decode cX2_insert 3 = .ok (.getfield 7, 3) := by decide +kernel
theorem dX2_insert_6 : decode cX2_insert 6 = .ok (.astore_n 3, 1) := by decide +kernel
theorem dX2_insert_7 : decode cX2_insert 7 = .ok (.aload_n 3, 1) := by decide +kernel
theorem dX2_insert_8 : decode cX2_insert 8 = .ok (.ifnull 24, 3) := by decide +kernel
theorem dX2_insert_11 : decode cX2_insert 11 = .ok (.aload_n 3, 1) := by decide +kernel
theorem dX2_insert_12 : decode cX2_insert 12 = .ok (.getfield 13, 3) := by decide +kernel
theorem dX2_insert_15 : decode cX2_insert 15 = .ok (.aload_n 1, 1) := by decide +kernel
theorem dX2_insert_16 : decode cX2_insert 16 = .ok (.getfield 13, 3) := by decide +kernel
theorem dX2_insert_19 : decode cX2_insert 19 = .ok (.if_icmp .gt 13, 3) := by decide +kernel
theorem dX2_insert_22 : decode cX2_insert 22 = .ok (.aload_n 3, 1) := by decide +kernel
theorem dX2_insert_23 : decode cX2_insert 23 = .ok (.astore_n 2, 1) := by decide +kernel
theorem dX2_insert_24 : decode cX2_insert 24 = .ok (.aload_n 3, 1) := by decide +kernel
theorem dX2_insert_25 : decode cX2_insert 25 = .ok (.getfield 19, 3) := by decide +kernel
theorem dX2_insert_28 : decode cX2_insert 28 = .ok (.astore_n 3, 1) := by decide +kernel
theorem dX2_insert_29 : decode cX2_insert 29 = .ok (.goto (-22), 3) := by decide +kernel
theorem dX2_insert_32 : decode cX2_insert 32 = .ok (.aload_n 2, 1) := by decide +kernel
theorem dX2_insert_33 : decode cX2_insert 33 = .ok (.ifnonnull 19, 3) := by decide +kernel
theorem dX2_insert_36 : decode cX2_insert 36 = .ok (.aload_n 1, 1) := by decide +kernel
theorem dX2_insert_37 : decode cX2_insert 37 = .ok (.aload_n 0, 1) := by decide +kernel
theorem dX2_insert_38 : decode cX2_insert 38 = .ok (.getfield 7, 3) := by decide +kernel
theorem dX2_insert_41 : decode cX2_insert 41 = .ok (.putfield 19, 3) := by decide +kernel
theorem dX2_insert_44 : decode cX2_insert 44 = .ok (.aload_n 0, 1) := by decide +kernel
theorem dX2_insert_45 : decode cX2_insert 45 = .ok (.aload_n 1, 1) := by decide +kernel
theorem dX2_insert_46 : decode cX2_insert 46 = .ok (.putfield 7, 3) := by decide +kernel
theorem dX2_insert_49 : decode cX2_insert 49 = .ok (.goto 16, 3) := by decide +kernel
theorem dX2_insert_52 : decode cX2_insert 52 = .ok (.aload_n 1, 1) := by decide +kernel
theorem dX2_insert_53 : decode cX2_insert 53 = .ok (.aload_n 2, 1) := by decide +kernel
theorem dX2_insert_54 : decode cX2_insert 54 = .ok (.getfield 19, 3) := by decide +kernel
theorem dX2_insert_57 : decode cX2_insert 57 = .ok (.putfield 19, 3) := by decide +kernel
theorem dX2_insert_60 : decode cX2_insert 60 = .ok (.aload_n 2, 1) := by decide +kernel
theorem dX2_insert_61 : decode cX2_insert 61 = .ok (.aload_n 1, 1) := by decide +kernel
theorem dX2_insert_62 : decode cX2_insert 62 = .ok (.putfield 19, 3) := by decide +kernel
theorem dX2_insert_65 : decode cX2_insert 65 = .ok (.aload_n 0, 1) := by decide +kernel
theorem dX2_insert_66 : decode cX2_insert 66 = .ok (.dup, 1) := by decide +kernel
theorem dX2_insert_67 : decode cX2_insert 67 = .ok (.getfield 22, 3) := by decide +kernel
theorem dX2_insert_70 : decode cX2_insert 70 = .ok (.iconst 1, 1) := by decide +kernel
theorem dX2_insert_71 : decode cX2_insert 71 = .ok (.iadd, 1) := by decide +kernel
theorem dX2_insert_72 : decode cX2_insert 72 = .ok (.putfield 22, 3) := by decide +kernel
theorem dX2_insert_75 : decode cX2_insert 75 = .ok (.return_, 1) := by decide +kernel
theorem dX2_remove_0 : decode cX2_remove 0 = .ok (.aconst_null, 1) := by decide +kernel
theorem dX2_remove_1 : decode cX2_remove 1 = .ok (.astore_n 2, 1) := by decide +kernel
theorem dX2_remove_2 : decode cX2_remove 2 = .ok (.aload_n 0, 1) := by decide +kernel
theorem dX2_remove_3 : decode cX2_remove 3 = .ok (.getfield 7, 3) := by decide +kernel
theorem dX2_remove_6 : decode cX2_remove 6 = .ok (.astore_n 3, 1) := by decide +kernel
theorem dX2_remove_7 : decode cX2_remove 7 = .ok (.aload_n 3, 1) := by decide +kernel
theorem dX2_remove_8 : decode cX2_remove 8 = .ok (.ifnull 18, 3) := by decide +kernel
theorem dX2_remove_11 : decode cX2_remove 11 = .ok (.aload_n 3, 1) := by decide +kernel
theorem dX2_remove_12 : decode cX2_remove 12 = .ok (.aload_n 1, 1) := by decide +kernel
theorem dX2_remove_13 : decode cX2_remove 13 = .ok (.if_acmp .eq 13, 3) := by decide +kernel
theorem dX2_remove_16 : decode cX2_remove 16 = .ok (.aload_n 3, 1) := by decide +kernel
theorem dX2_remove_17 : decode cX2_remove 17 = .ok (.astore_n 2, 1) := by decide +kernel
theorem dX2_remove_18 : decode cX2_remove 18 = .ok (.aload_n 3, 1) := by decide +kernel
theorem dX2_remove_19 : decode cX2_remove 19 = .ok (.getfield 19, 3) := by decide +kernel
theorem dX2_remove_22 : decode cX2_remove 22 = .ok (.astore_n 3, 1) := by decide +kernel
theorem dX2_remove_23 : decode cX2_remove 23 = .ok (.goto (-16), 3) := by decide +kernel
theorem dX2_remove_26 : decode cX2_remove 26 = .ok (.aload_n 2, 1) := by decide +kernel
theorem dX2_remove_27 : decode cX2_remove 27 = .ok (.ifnonnull 14, 3) := by decide +kernel
theorem dX2_remove_30 : decode cX2_remove 30 = .ok (.aload_n 0, 1) := by decide +kernel
theorem dX2_remove_31 : decode cX2_remove 31 = .ok (.aload_n 1, 1) := by decide +kernel
theorem dX2_remove_32 : decode cX2_remove 32 = .ok (.getfield 19, 3) := by decide +kernel
theorem dX2_remove_35 : decode cX2_remove 35 = .ok (.putfield 7, 3) := by decide +kernel
theorem dX2_remove_38 : decode cX2_remove 38 = .ok (.goto 11, 3) := by decide +kernel
theorem dX2_remove_41 : decode cX2_remove 41 = .ok (.aload_n 2, 1) := by decide +kernel
theorem dX2_remove_42 : decode cX2_remove 42 = .ok (.aload_n 1, 1) := by decide +kernel
theorem dX2_remove_43 : decode cX2_remove 43 = .ok (.getfield 19, 3) := by decide +kernel
theorem dX2_remove_46 : decode cX2_remove 46 = .ok (.putfield 19, 3) := by decide +kernel
theorem dX2_remove_49 : decode cX2_remove 49 = .ok (.aload_n 1, 1) := by decide +kernel
theorem dX2_remove_50 : decode cX2_remove 50 = .ok (.aconst_null, 1) := by decide +kernel
theorem dX2_remove_51 : decode cX2_remove 51 = .ok (.putfield 19, 3) := by decide +kernel
theorem dX2_remove_54 : decode cX2_remove 54 = .ok (.aload_n 0, 1) := by decide +kernel
theorem dX2_remove_55 : decode cX2_remove 55 = .ok (.dup, 1) := by decide +kernel
theorem dX2_remove_56 : decode cX2_remove 56 = .ok (.getfield 22, 3) := by decide +kernel
theorem dX2_remove_59 : decode cX2_remove 59 = .ok (.iconst 1, 1) := by decide +kernel
theorem dX2_remove_60 : decode cX2_remove 60 = .ok (.isub, 1) := by decide +kernel
theorem dX2_remove_61 : decode cX2_remove 61 = .ok (.putfield 22, 3) := by decide +kernel
theorem dX2_remove_64 : decode cX2_remove 64 = .ok (.return_, 1) := by decide +kernel
theorem dX2_place_0 : decode cX2_place 0 = .ok (.iconst 0, 1) := by decide +kernel
theorem dX2_place_1 : decode cX2_place 1 = .ok (.istore_n 2, 1) := by decide +kernel
theorem dX2_place_2 : decode cX2_place 2 = .ok (.aload_n 0, 1) := by decide +kernel
theorem dX2_place_3 : decode cX2_place 3 = .ok (.getfield 7, 3) := by decide +kernel
theorem dX2_place_6 : decode cX2_place 6 = .ok (.astore_n 3, 1) := by decide +kernel
theorem dX2_place_7 : decode cX2_place 7 = .ok (.aload_n 3, 1) := by decide +kernel
theorem dX2_place_8 : decode cX2_place 8 = .ok (.ifnull 19, 3) := by decide +kernel
theorem dX2_place_11 : decode cX2_place 11 = .ok (.aload_n 3, 1) := by decide +kernel
theorem dX2_place_12 : decode cX2_place 12 = .ok (.aload_n 1, 1) := by decide +kernel
theorem dX2_place_13 : decode cX2_place 13 = .ok (.if_acmp .eq 14, 3) := by decide +kernel
theorem dX2_place_16 : decode cX2_place 16 = .ok (.iinc 2 1, 3) := by decide +kernel
theorem dX2_place_19 : decode cX2_place 19 = .ok (.aload_n 3, 1) := by decide +kernel
theorem dX2_place_20 : decode cX2_place 20 = .ok (.getfield 19, 3) := by decide +kernel
theorem dX2_place_23 : decode cX2_place 23 = .ok (.astore_n 3, 1) := by decide +kernel
theorem dX2_place_24 : decode cX2_place 24 = .ok (.goto (-17), 3) := by decide +kernel
theorem dX2_place_27 : decode cX2_place 27 = .ok (.iload_n 2, 1) := by decide +kernel
theorem dX2_place_28 : decode cX2_place 28 = .ok (.ireturn, 1) := by decide +kernel
theorem dX2_units_0 : decode cX2_units 0 = .ok (.iconst 0, 1) := by decide +kernel
theorem dX2_units_1 : decode cX2_units 1 = .ok (.istore_n 3, 1) := by decide +kernel
theorem dX2_units_2 : decode cX2_units 2 = .ok (.aload_n 0, 1) := by decide +kernel
theorem dX2_units_3 : decode cX2_units 3 = .ok (.getfield 7, 3) := by decide +kernel
theorem dX2_units_6 : decode cX2_units 6 = .ok (.astore 4, 2) := by decide +kernel
theorem dX2_units_8 : decode cX2_units 8 = .ok (.aload 4, 2) := by decide +kernel
theorem dX2_units_10 : decode cX2_units 10 = .ok (.ifnull 39, 3) := by decide +kernel
theorem dX2_units_13 : decode cX2_units 13 = .ok (.aload 4, 2) := by decide +kernel
theorem dX2_units_15 : decode cX2_units 15 = .ok (.getfield 13, 3) := by decide +kernel
theorem dX2_units_18 : decode cX2_units 18 = .ok (.iload_n 2, 1) := by decide +kernel
theorem dX2_units_19 : decode cX2_units 19 = .ok (.if_icmp .gt 30, 3) := by decide +kernel
theorem dX2_units_22 : decode cX2_units 22 = .ok (.aload 4, 2) := by decide +kernel
theorem dX2_units_24 : decode cX2_units 24 = .ok (.getfield 25, 3) := by decide +kernel
theorem dX2_units_27 : decode cX2_units 27 = .ok (.iload_n 1, 1) := by decide +kernel
theorem dX2_units_28 : decode cX2_units 28 = .ok (.if_icmp .ne 11, 3) := by decide +kernel
theorem dX2_units_31 : decode cX2_units 31 = .ok (.iload_n 3, 1) := by decide +kernel
theorem dX2_units_32 : decode cX2_units 32 = .ok (.aload 4, 2) := by decide +kernel
theorem dX2_units_34 : decode cX2_units 34 = .ok (.invokevirtual 28, 3) := by decide +kernel
theorem dX2_units_37 : decode cX2_units 37 = .ok (.iadd, 1) := by decide +kernel
theorem dX2_units_38 : decode cX2_units 38 = .ok (.istore_n 3, 1) := by decide +kernel
theorem dX2_units_39 : decode cX2_units 39 = .ok (.aload 4, 2) := by decide +kernel
theorem dX2_units_41 : decode cX2_units 41 = .ok (.getfield 19, 3) := by decide +kernel
theorem dX2_units_44 : decode cX2_units 44 = .ok (.astore 4, 2) := by decide +kernel
theorem dX2_units_46 : decode cX2_units 46 = .ok (.goto (-38), 3) := by decide +kernel
theorem dX2_units_49 : decode cX2_units 49 = .ok (.iload_n 3, 1) := by decide +kernel
theorem dX2_units_50 : decode cX2_units 50 = .ok (.ireturn, 1) := by decide +kernel
theorem dX2_spare_0 : decode cX2_spare 0 = .ok (.iconst 0, 1) := by decide +kernel
theorem dX2_spare_1 : decode cX2_spare 1 = .ok (.istore 4, 2) := by decide +kernel
theorem dX2_spare_3 : decode cX2_spare 3 = .ok (.iconst 0, 1) := by decide +kernel
theorem dX2_spare_4 : decode cX2_spare 4 = .ok (.istore 5, 2) := by decide +kernel
theorem dX2_spare_6 : decode cX2_spare 6 = .ok (.aload_n 0, 1) := by decide +kernel
theorem dX2_spare_7 : decode cX2_spare 7 = .ok (.getfield 7, 3) := by decide +kernel
theorem dX2_spare_10 : decode cX2_spare 10 = .ok (.astore 6, 2) := by decide +kernel
theorem dX2_spare_12 : decode cX2_spare 12 = .ok (.aload 6, 2) := by decide +kernel
theorem dX2_spare_14 : decode cX2_spare 14 = .ok (.ifnull 83, 3) := by decide +kernel
theorem dX2_spare_17 : decode cX2_spare 17 = .ok (.aload 6, 2) := by decide +kernel
theorem dX2_spare_19 : decode cX2_spare 19 = .ok (.getfield 25, 3) := by decide +kernel
theorem dX2_spare_22 : decode cX2_spare 22 = .ok (.iload_n 1, 1) := by decide +kernel
theorem dX2_spare_23 : decode cX2_spare 23 = .ok (.if_icmp .ne 64, 3) := by decide +kernel
theorem dX2_spare_26 : decode cX2_spare 26 = .ok (.aload 6, 2) := by decide +kernel
theorem dX2_spare_28 : decode cX2_spare 28 = .ok (.iload_n 2, 1) := by decide +kernel
theorem dX2_spare_29 : decode cX2_spare 29 = .ok (.iload_n 3, 1) := by decide +kernel
theorem dX2_spare_30 : decode cX2_spare 30 = .ok (.invokevirtual 32, 3) := by decide +kernel
theorem dX2_spare_33 : decode cX2_spare 33 = .ok (.istore 7, 2) := by decide +kernel
theorem dX2_spare_35 : decode cX2_spare 35 = .ok (.iload 7, 2) := by decide +kernel
theorem dX2_spare_37 : decode cX2_spare 37 = .ok (.ifCond .eq 26, 3) := by decide +kernel
theorem dX2_spare_40 : decode cX2_spare 40 = .ok (.aload 6, 2) := by decide +kernel
theorem dX2_spare_42 : decode cX2_spare 42 = .ok (.invokevirtual 36, 3) := by decide +kernel
theorem dX2_spare_45 : decode cX2_spare 45 = .ok (.ifCond .eq 18, 3) := by decide +kernel
theorem dX2_spare_48 : decode cX2_spare 48 = .ok (.iload 5, 2) := by decide +kernel
theorem dX2_spare_50 : decode cX2_spare 50 = .ok (.iload 4, 2) := by decide +kernel
theorem dX2_spare_52 : decode cX2_spare 52 = .ok (.aload 6, 2) := by decide +kernel
theorem dX2_spare_54 : decode cX2_spare 54 = .ok (.getfield 40, 3) := by decide +kernel
theorem dX2_spare_57 : decode cX2_spare 57 = .ok (.isub, 1) := by decide +kernel
theorem dX2_spare_58 : decode cX2_spare 58 = .ok (.invokestatic 43, 3) := by decide +kernel
theorem dX2_spare_61 : decode cX2_spare 61 = .ok (.istore 5, 2) := by decide +kernel
theorem dX2_spare_63 : decode cX2_spare 63 = .ok (.iload 4, 2) := by decide +kernel
theorem dX2_spare_65 : decode cX2_spare 65 = .ok (.aload 6, 2) := by decide +kernel
theorem dX2_spare_67 : decode cX2_spare 67 = .ok (.invokevirtual 28, 3) := by decide +kernel
theorem dX2_spare_70 : decode cX2_spare 70 = .ok (.iadd, 1) := by decide +kernel
theorem dX2_spare_71 : decode cX2_spare 71 = .ok (.istore 4, 2) := by decide +kernel
theorem dX2_spare_73 : decode cX2_spare 73 = .ok (.iload 7, 2) := by decide +kernel
theorem dX2_spare_75 : decode cX2_spare 75 = .ok (.ifCond .eq 8, 3) := by decide +kernel
theorem dX2_spare_78 : decode cX2_spare 78 = .ok (.iload 5, 2) := by decide +kernel
theorem dX2_spare_80 : decode cX2_spare 80 = .ok (.goto 5, 3) := by decide +kernel
theorem dX2_spare_83 : decode cX2_spare 83 = .ok (.iload 4, 2) := by decide +kernel
theorem dX2_spare_85 : decode cX2_spare 85 = .ok (.istore 5, 2) := by decide +kernel
theorem dX2_spare_87 : decode cX2_spare 87 = .ok (.aload 6, 2) := by decide +kernel
theorem dX2_spare_89 : decode cX2_spare 89 = .ok (.getfield 19, 3) := by decide +kernel
theorem dX2_spare_92 : decode cX2_spare 92 = .ok (.astore 6, 2) := by decide +kernel
theorem dX2_spare_94 : decode cX2_spare 94 = .ok (.goto (-82), 3) := by decide +kernel
theorem dX2_spare_97 : decode cX2_spare 97 = .ok (.iload 5, 2) := by decide +kernel
theorem dX2_spare_99 : decode cX2_spare 99 = .ok (.ireturn, 1) := by decide +kernel
theorem dX2_spreadsOver_0 : decode cX2_spreadsOver 0 = .ok (.aload_n 0, 1) := by decide +kernel
theorem dX2_spreadsOver_1 : decode cX2_spreadsOver 1 = .ok (.getfield 7, 3) := by decide +kernel
theorem dX2_spreadsOver_4 : decode cX2_spreadsOver 4 = .ok (.astore_n 2, 1) := by decide +kernel
theorem dX2_spreadsOver_5 : decode cX2_spreadsOver 5 = .ok (.aload_n 2, 1) := by decide +kernel
theorem dX2_spreadsOver_6 : decode cX2_spreadsOver 6 = .ok (.ifnull 19, 3) := by decide +kernel
theorem dX2_spreadsOver_9 : decode cX2_spreadsOver 9 = .ok (.aload_n 2, 1) := by decide +kernel
theorem dX2_spreadsOver_10 : decode cX2_spreadsOver 10 = .ok (.aload_n 1, 1) := by decide +kernel
theorem dX2_spreadsOver_11 : decode cX2_spreadsOver 11 = .ok (.invokevirtual 49, 3) := by decide +kernel
theorem dX2_spreadsOver_14 : decode cX2_spreadsOver 14 = .ok (.ifnonnull 11, 3) := by decide +kernel
theorem dX2_spreadsOver_17 : decode cX2_spreadsOver 17 = .ok (.aload_n 2, 1) := by decide +kernel
theorem dX2_spreadsOver_18 : decode cX2_spreadsOver 18 = .ok (.getfield 19, 3) := by decide +kernel
theorem dX2_spreadsOver_21 : decode cX2_spreadsOver 21 = .ok (.astore_n 2, 1) := by decide +kernel
theorem dX2_spreadsOver_22 : decode cX2_spreadsOver 22 = .ok (.goto (-17), 3) := by decide +kernel
theorem dX2_spreadsOver_25 : decode cX2_spreadsOver 25 = .ok (.aload_n 2, 1) := by decide +kernel
theorem dX2_spreadsOver_26 : decode cX2_spreadsOver 26 = .ok (.ifnull 7, 3) := by decide +kernel
theorem dX2_spreadsOver_29 : decode cX2_spreadsOver 29 = .ok (.iconst 1, 1) := by decide +kernel
theorem dX2_spreadsOver_30 : decode cX2_spreadsOver 30 = .ok (.goto 4, 3) := by decide +kernel
theorem dX2_spreadsOver_33 : decode cX2_spreadsOver 33 = .ok (.iconst 0, 1) := by decide +kernel
theorem dX2_spreadsOver_34 : decode cX2_spreadsOver 34 = .ok (.ireturn, 1) := by decide +kernel
theorem dX3_init_0 : decode cX3_init 0 = .ok (.aload_n 0, 1) := by decide +kernel
theorem dX3_init_1 : decode cX3_init 1 = .ok (.invokespecial 3, 3) := by decide +kernel
theorem dX3_init_4 : decode cX3_init 4 = .ok (.aload_n 0, 1) := by decide +kernel
theorem dX3_init_5 : decode cX3_init 5 = .ok (.iload_n 1, 1) := by decide +kernel
theorem dX3_init_6 : decode cX3_init 6 = .ok (.putfield 9, 3) := by decide +kernel
theorem dX3_init_9 : decode cX3_init 9 = .ok (.aload_n 0, 1) := by decide +kernel
theorem dX3_init_10 : decode cX3_init 10 = .ok (.iload_n 2, 1) := by decide +kernel
theorem dX3_init_11 : decode cX3_init 11 = .ok (.putfield 15, 3) := by decide +kernel
theorem dX3_init_14 : decode cX3_init 14 = .ok (.aload_n 0, 1) := by decide +kernel
theorem dX3_init_15 : decode cX3_init 15 = .ok (.iload_n 3, 1) := by decide +kernel
theorem dX3_init_16 : decode cX3_init 16 = .ok (.putfield 18, 3) := by decide +kernel
theorem dX3_init_19 : decode cX3_init 19 = .ok (.aload_n 0, 1) := by decide +kernel
theorem dX3_init_20 : decode cX3_init 20 = .ok (.iload 4, 2) := by decide +kernel
theorem dX3_init_22 : decode cX3_init 22 = .ok (.putfield 21, 3) := by decide +kernel
theorem dX3_init_25 : decode cX3_init 25 = .ok (.aload_n 0, 1) := by decide +kernel
theorem dX3_init_26 : decode cX3_init 26 = .ok (.iload 5, 2) := by decide +kernel
theorem dX3_init_28 : decode cX3_init 28 = .ok (.putfield 24, 3) := by decide +kernel
theorem dX3_init_31 : decode cX3_init 31 = .ok (.aload_n 0, 1) := by decide +kernel
theorem dX3_init_32 : decode cX3_init 32 = .ok (.iload 6, 2) := by decide +kernel
theorem dX3_init_34 : decode cX3_init 34 = .ok (.putfield 27, 3) := by decide +kernel
theorem dX3_init_37 : decode cX3_init 37 = .ok (.aload_n 0, 1) := by decide +kernel
theorem dX3_init_38 : decode cX3_init 38 = .ok (.new 30, 3) := by decide +kernel
theorem dX3_init_41 : decode cX3_init 41 = .ok (.dup, 1) := by decide +kernel
theorem dX3_init_42 : decode cX3_init 42 = .ok (.iload_n 1, 1) := by decide +kernel
theorem dX3_init_43 : decode cX3_init 43 = .ok (.invokespecial 32, 3) := by decide +kernel
theorem dX3_init_46 : decode cX3_init 46 = .ok (.putfield 35, 3) := by decide +kernel
theorem dX3_init_49 : decode cX3_init 49 = .ok (.return_, 1) := by decide +kernel
theorem dX3_change_0 : decode cX3_change 0 = .ok (.aload_n 0, 1) := by decide +kernel
theorem dX3_change_1 : decode cX3_change 1 = .ok (.getfield 15, 3) := by decide +kernel
theorem dX3_change_4 : decode cX3_change 4 = .ok (.ifCond .ne 8, 3) := by decide +kernel
theorem dX3_change_7 : decode cX3_change 7 = .ok (.aload_n 0, 1) := by decide +kernel
theorem dX3_change_8 : decode cX3_change 8 = .ok (.getfield 24, 3) := by decide +kernel
theorem dX3_change_11 : decode cX3_change 11 = .ok (.ireturn, 1) := by decide +kernel
theorem dX3_change_12 : decode cX3_change 12 = .ok (.aload_n 0, 1) := by decide +kernel
theorem dX3_change_13 : decode cX3_change 13 = .ok (.getfield 15, 3) := by decide +kernel
theorem dX3_change_16 : decode cX3_change 16 = .ok (.iconst 1, 1) := by decide +kernel
theorem dX3_change_17 : decode cX3_change 17 = .ok (.if_icmp .ne 11, 3) := by decide +kernel
theorem dX3_change_20 : decode cX3_change 20 = .ok (.aload_n 0, 1) := by decide +kernel
theorem dX3_change_21 : decode cX3_change 21 = .ok (.getfield 24, 3) := by decide +kernel
theorem dX3_change_24 : decode cX3_change 24 = .ok (.ineg, 1) := by decide +kernel
theorem dX3_change_25 : decode cX3_change 25 = .ok (.goto 4, 3) := by decide +kernel
theorem dX3_change_28 : decode cX3_change 28 = .ok (.iconst 0, 1) := by decide +kernel
theorem dX3_change_29 : decode cX3_change 29 = .ok (.ireturn, 1) := by decide +kernel
theorem dX3_needsUnits_0 : decode cX3_needsUnits 0 = .ok (.aload_n 0, 1) := by decide +kernel
theorem dX3_needsUnits_1 : decode cX3_needsUnits 1 = .ok (.getfield 15, 3) := by decide +kernel
theorem dX3_needsUnits_4 : decode cX3_needsUnits 4 = .ok (.iconst 1, 1) := by decide +kernel
theorem dX3_needsUnits_5 : decode cX3_needsUnits 5 = .ok (.if_icmp .eq 11, 3) := by decide +kernel
theorem dX3_needsUnits_8 : decode cX3_needsUnits 8 = .ok (.aload_n 0, 1) := by decide +kernel
theorem dX3_needsUnits_9 : decode cX3_needsUnits 9 = .ok (.getfield 15, 3) := by decide +kernel
theorem dX3_needsUnits_12 : decode cX3_needsUnits 12 = .ok (.iconst 2, 1) := by decide +kernel
theorem dX3_needsUnits_13 : decode cX3_needsUnits 13 = .ok (.if_icmp .ne 7, 3) := by decide +kernel
theorem dX3_needsUnits_16 : decode cX3_needsUnits 16 = .ok (.iconst 1, 1) := by decide +kernel
theorem dX3_needsUnits_17 : decode cX3_needsUnits 17 = .ok (.goto 4, 3) := by decide +kernel
theorem dX3_needsUnits_20 : decode cX3_needsUnits 20 = .ok (.iconst 0, 1) := by decide +kernel
theorem dX3_needsUnits_21 : decode cX3_needsUnits 21 = .ok (.ireturn, 1) := by decide +kernel
theorem dX3_isBehind_0 : decode cX3_isBehind 0 = .ok (.aload_n 0, 1) := by decide +kernel
theorem dX3_isBehind_1 : decode cX3_isBehind 1 = .ok (.getfield 18, 3) := by decide +kernel
theorem dX3_isBehind_4 : decode cX3_isBehind 4 = .ok (.iload_n 1, 1) := by decide +kernel
theorem dX3_isBehind_5 : decode cX3_isBehind 5 = .ok (.if_icmp .gt 19, 3) := by decide +kernel
theorem dX3_isBehind_8 : decode cX3_isBehind 8 = .ok (.aload_n 0, 1) := by decide +kernel
theorem dX3_isBehind_9 : decode cX3_isBehind 9 = .ok (.getfield 18, 3) := by decide +kernel
theorem dX3_isBehind_12 : decode cX3_isBehind 12 = .ok (.iload_n 1, 1) := by decide +kernel
theorem dX3_isBehind_13 : decode cX3_isBehind 13 = .ok (.if_icmp .ne 15, 3) := by decide +kernel
theorem dX3_isBehind_16 : decode cX3_isBehind 16 = .ok (.aload_n 0, 1) := by decide +kernel
theorem dX3_isBehind_17 : decode cX3_isBehind 17 = .ok (.getfield 9, 3) := by decide +kernel
theorem dX3_isBehind_20 : decode cX3_isBehind 20 = .ok (.iload_n 2, 1) := by decide +kernel
theorem dX3_isBehind_21 : decode cX3_isBehind 21 = .ok (.if_icmp .le 7, 3) := by decide +kernel
theorem dX3_isBehind_24 : decode cX3_isBehind 24 = .ok (.iconst 1, 1) := by decide +kernel
theorem dX3_isBehind_25 : decode cX3_isBehind 25 = .ok (.goto 4, 3) := by decide +kernel
theorem dX3_isBehind_28 : decode cX3_isBehind 28 = .ok (.iconst 0, 1) := by decide +kernel
theorem dX3_isBehind_29 : decode cX3_isBehind 29 = .ok (.ireturn, 1) := by decide +kernel
theorem dX3_shareOf_0 : decode cX3_shareOf 0 = .ok (.aload_n 0, 1) := by decide +kernel
theorem dX3_shareOf_1 : decode cX3_shareOf 1 = .ok (.getfield 39, 3) := by decide +kernel
theorem dX3_shareOf_4 : decode cX3_shareOf 4 = .ok (.astore_n 2, 1) := by decide +kernel
theorem dX3_shareOf_5 : decode cX3_shareOf 5 = .ok (.aload_n 2, 1) := by decide +kernel
theorem dX3_shareOf_6 : decode cX3_shareOf 6 = .ok (.ifnull 19, 3) := by decide +kernel
theorem dX3_shareOf_9 : decode cX3_shareOf 9 = .ok (.aload_n 2, 1) := by decide +kernel
theorem dX3_shareOf_10 : decode cX3_shareOf 10 = .ok (.getfield 43, 3) := by decide +kernel
theorem dX3_shareOf_13 : decode cX3_shareOf 13 = .ok (.aload_n 1, 1) := by decide +kernel
theorem dX3_shareOf_14 : decode cX3_shareOf 14 = .ok (.if_acmp .eq 11, 3) := by decide +kernel
theorem dX3_shareOf_17 : decode cX3_shareOf 17 = .ok (.aload_n 2, 1) := by decide +kernel
theorem dX3_shareOf_18 : decode cX3_shareOf 18 = .ok (.getfield 49, 3) := by decide +kernel
theorem dX3_shareOf_21 : decode cX3_shareOf 21 = .ok (.astore_n 2, 1) := by decide +kernel
theorem dX3_shareOf_22 : decode cX3_shareOf 22 = .ok (.goto (-17), 3) := by decide +kernel
theorem dX3_shareOf_25 : decode cX3_shareOf 25 = .ok (.aload_n 2, 1) := by decide +kernel
theorem dX3_shareOf_26 : decode cX3_shareOf 26 = .ok (.areturn, 1) := by decide +kernel
theorem dX4_init_0 : decode cX4_init 0 = .ok (.aload_n 0, 1) := by decide +kernel
theorem dX4_init_1 : decode cX4_init 1 = .ok (.invokespecial 1, 3) := by decide +kernel
theorem dX4_init_4 : decode cX4_init 4 = .ok (.return_, 1) := by decide +kernel
theorem dX4_empty_0 : decode cX4_empty 0 = .ok (.aload_n 0, 1) := by decide +kernel
theorem dX4_empty_1 : decode cX4_empty 1 = .ok (.lconst 0, 1) := by decide +kernel
theorem dX4_empty_2 : decode cX4_empty 2 = .ok (.putfield 7, 3) := by decide +kernel
theorem dX4_empty_5 : decode cX4_empty 5 = .ok (.return_, 1) := by decide +kernel
theorem dX4_bring_0 : decode cX4_bring 0 = .ok (.aload_n 0, 1) := by decide +kernel
theorem dX4_bring_1 : decode cX4_bring 1 = .ok (.dup, 1) := by decide +kernel
theorem dX4_bring_2 : decode cX4_bring 2 = .ok (.getfield 7, 3) := by decide +kernel
theorem dX4_bring_5 : decode cX4_bring 5 = .ok (.aload_n 1, 1) := by decide +kernel
theorem dX4_bring_6 : decode cX4_bring 6 = .ok (.getfield 13, 3) := by decide +kernel
theorem dX4_bring_9 : decode cX4_bring 9 = .ok (.i2l, 1) := by decide +kernel
theorem dX4_bring_10 : decode cX4_bring 10 = .ok (.ladd, 1) := by decide +kernel
theorem dX4_bring_11 : decode cX4_bring 11 = .ok (.putfield 7, 3) := by decide +kernel
theorem dX4_bring_14 : decode cX4_bring 14 = .ok (.return_, 1) := by decide +kernel
theorem dX4_take_0 : decode cX4_take 0 = .ok (.aload_n 0, 1) := by decide +kernel
theorem dX4_take_1 : decode cX4_take 1 = .ok (.getfield 19, 3) := by decide +kernel
theorem dX4_take_4 : decode cX4_take 4 = .ok (.ifCond .le 19, 3) := by decide +kernel
theorem dX4_take_7 : decode cX4_take 7 = .ok (.aload_n 0, 1) := by decide +kernel
theorem dX4_take_8 : decode cX4_take 8 = .ok (.getfield 7, 3) := by decide +kernel
theorem dX4_take_11 : decode cX4_take 11 = .ok (.iload_n 1, 1) := by decide +kernel
theorem dX4_take_12 : decode cX4_take 12 = .ok (.i2l, 1) := by decide +kernel
theorem dX4_take_13 : decode cX4_take 13 = .ok (.lmul, 1) := by decide +kernel
theorem dX4_take_14 : decode cX4_take 14 = .ok (.aload_n 0, 1) := by decide +kernel
theorem dX4_take_15 : decode cX4_take 15 = .ok (.getfield 19, 3) := by decide +kernel
theorem dX4_take_18 : decode cX4_take 18 = .ok (.i2l, 1) := by decide +kernel
theorem dX4_take_19 : decode cX4_take 19 = .ok (.ldiv, 1) := by decide +kernel
theorem dX4_take_20 : decode cX4_take 20 = .ok (.goto 4, 3) := by decide +kernel
theorem dX4_take_23 : decode cX4_take 23 = .ok (.lconst 0, 1) := by decide +kernel
theorem dX4_take_24 : decode cX4_take 24 = .ok (.lstore_n 2, 1) := by decide +kernel
theorem dX4_take_25 : decode cX4_take 25 = .ok (.aload_n 0, 1) := by decide +kernel
theorem dX4_take_26 : decode cX4_take 26 = .ok (.dup, 1) := by decide +kernel
theorem dX4_take_27 : decode cX4_take 27 = .ok (.getfield 7, 3) := by decide +kernel
theorem dX4_take_30 : decode cX4_take 30 = .ok (.lload_n 2, 1) := by decide +kernel
theorem dX4_take_31 : decode cX4_take 31 = .ok (.lsub, 1) := by decide +kernel
theorem dX4_take_32 : decode cX4_take 32 = .ok (.putfield 7, 3) := by decide +kernel
theorem dX4_take_35 : decode cX4_take 35 = .ok (.lload_n 2, 1) := by decide +kernel
theorem dX4_take_36 : decode cX4_take 36 = .ok (.lreturn, 1) := by decide +kernel
theorem dX4_bringBack_0 : decode cX4_bringBack 0 = .ok (.aload_n 0, 1) := by decide +kernel
theorem dX4_bringBack_1 : decode cX4_bringBack 1 = .ok (.dup, 1) := by decide +kernel
theorem dX4_bringBack_2 : decode cX4_bringBack 2 = .ok (.getfield 7, 3) := by decide +kernel
theorem dX4_bringBack_5 : decode cX4_bringBack 5 = .ok (.aload_n 1, 1) := by decide +kernel
theorem dX4_bringBack_6 : decode cX4_bringBack 6 = .ok (.getfield 13, 3) := by decide +kernel
theorem dX4_bringBack_9 : decode cX4_bringBack 9 = .ok (.i2l, 1) := by decide +kernel
theorem dX4_bringBack_10 : decode cX4_bringBack 10 = .ok (.ladd, 1) := by decide +kernel
theorem dX4_bringBack_11 : decode cX4_bringBack 11 = .ok (.putfield 7, 3) := by decide +kernel
theorem dX4_bringBack_14 : decode cX4_bringBack 14 = .ok (.return_, 1) := by decide +kernel
theorem dX4_absorb_0 : decode cX4_absorb 0 = .ok (.aload_n 1, 1) := by decide +kernel
theorem dX4_absorb_1 : decode cX4_absorb 1 = .ok (.iload_n 2, 1) := by decide +kernel
theorem dX4_absorb_2 : decode cX4_absorb 2 = .ok (.aload_n 0, 1) := by decide +kernel
theorem dX4_absorb_3 : decode cX4_absorb 3 = .ok (.getfield 19, 3) := by decide +kernel
theorem dX4_absorb_6 : decode cX4_absorb 6 = .ok (.aload_n 1, 1) := by decide +kernel
theorem dX4_absorb_7 : decode cX4_absorb 7 = .ok (.getfield 22, 3) := by decide +kernel
theorem dX4_absorb_10 : decode cX4_absorb 10 = .ok (.invokestatic 25, 3) := by decide +kernel
theorem dX4_absorb_13 : decode cX4_absorb 13 = .ok (.invokestatic 31, 3) := by decide +kernel
theorem dX4_absorb_16 : decode cX4_absorb 16 = .ok (.lstore_n 3, 1) := by decide +kernel
theorem dX4_absorb_17 : decode cX4_absorb 17 = .ok (.aload_n 0, 1) := by decide +kernel
theorem dX4_absorb_18 : decode cX4_absorb 18 = .ok (.dup, 1) := by decide +kernel
theorem dX4_absorb_19 : decode cX4_absorb 19 = .ok (.getfield 7, 3) := by decide +kernel
theorem dX4_absorb_22 : decode cX4_absorb 22 = .ok (.lload_n 3, 1) := by decide +kernel
theorem dX4_absorb_23 : decode cX4_absorb 23 = .ok (.ladd, 1) := by decide +kernel
theorem dX4_absorb_24 : decode cX4_absorb 24 = .ok (.putfield 7, 3) := by decide +kernel
theorem dX4_absorb_27 : decode cX4_absorb 27 = .ok (.lload_n 3, 1) := by decide +kernel
theorem dX4_absorb_28 : decode cX4_absorb 28 = .ok (.lreturn, 1) := by decide +kernel
theorem dX4_worth_0 : decode cX4_worth 0 = .ok (.aload_n 0, 1) := by decide +kernel
theorem dX4_worth_1 : decode cX4_worth 1 = .ok (.getfield 7, 3) := by decide +kernel
theorem dX4_worth_4 : decode cX4_worth 4 = .ok (.lreturn, 1) := by decide +kernel
theorem dX5_init_0 : decode cX5_init 0 = .ok (.aload_n 0, 1) := by decide +kernel
theorem dX5_init_1 : decode cX5_init 1 = .ok (.invokespecial 1, 3) := by decide +kernel
theorem dX5_init_4 : decode cX5_init 4 = .ok (.aload_n 0, 1) := by decide +kernel
theorem dX5_init_5 : decode cX5_init 5 = .ok (.aload_n 1, 1) := by decide +kernel
theorem dX5_init_6 : decode cX5_init 6 = .ok (.putfield 7, 3) := by decide +kernel
theorem dX5_init_9 : decode cX5_init 9 = .ok (.aload_n 0, 1) := by decide +kernel
theorem dX5_init_10 : decode cX5_init 10 = .ok (.iload_n 2, 1) := by decide +kernel
theorem dX5_init_11 : decode cX5_init 11 = .ok (.putfield 13, 3) := by decide +kernel
theorem dX5_init_14 : decode cX5_init 14 = .ok (.aload_n 0, 1) := by decide +kernel
theorem dX5_init_15 : decode cX5_init 15 = .ok (.lload_n 3, 1) := by decide +kernel
theorem dX5_init_16 : decode cX5_init 16 = .ok (.putfield 17, 3) := by decide +kernel
theorem dX5_init_19 : decode cX5_init 19 = .ok (.aload_n 0, 1) := by decide +kernel
theorem dX5_init_20 : decode cX5_init 20 = .ok (.aload 5, 2) := by decide +kernel
theorem dX5_init_22 : decode cX5_init 22 = .ok (.putfield 21, 3) := by decide +kernel
theorem dX5_init_25 : decode cX5_init 25 = .ok (.return_, 1) := by decide +kernel
theorem dX6_init_0 : decode cX6_init 0 = .ok (.aload_n 0, 1) := by decide +kernel
theorem dX6_init_1 : decode cX6_init 1 = .ok (.invokespecial 3, 3) := by decide +kernel
theorem dX6_init_4 : decode cX6_init 4 = .ok (.return_, 1) := by decide +kernel
theorem dX6_replay_0 : decode cX6_replay 0 = .ok (.aload_n 0, 1) := by decide +kernel
theorem dX6_replay_1 : decode cX6_replay 1 = .ok (.iconst 0, 1) := by decide +kernel
theorem dX6_replay_2 : decode cX6_replay 2 = .ok (.putfield 9, 3) := by decide +kernel
theorem dX6_replay_5 : decode cX6_replay 5 = .ok (.aload_n 0, 1) := by decide +kernel
theorem dX6_replay_6 : decode cX6_replay 6 = .ok (.lconst 0, 1) := by decide +kernel
theorem dX6_replay_7 : decode cX6_replay 7 = .ok (.putfield 15, 3) := by decide +kernel
theorem dX6_replay_10 : decode cX6_replay 10 = .ok (.aload_n 0, 1) := by decide +kernel
theorem dX6_replay_11 : decode cX6_replay 11 = .ok (.lconst 0, 1) := by decide +kernel
theorem dX6_replay_12 : decode cX6_replay 12 = .ok (.putfield 19, 3) := by decide +kernel
theorem dX6_replay_15 : decode cX6_replay 15 = .ok (.aload_n 0, 1) := by decide +kernel
theorem dX6_replay_16 : decode cX6_replay 16 = .ok (.lconst 0, 1) := by decide +kernel
theorem dX6_replay_17 : decode cX6_replay 17 = .ok (.putfield 22, 3) := by decide +kernel
theorem dX6_replay_20 : decode cX6_replay 20 = .ok (.aload_n 0, 1) := by decide +kernel
theorem dX6_replay_21 : decode cX6_replay 21 = .ok (.lconst 0, 1) := by decide +kernel
theorem dX6_replay_22 : decode cX6_replay 22 = .ok (.putfield 25, 3) := by decide +kernel
theorem dX6_replay_25 : decode cX6_replay 25 = .ok (.aload_n 0, 1) := by decide +kernel
theorem dX6_replay_26 : decode cX6_replay 26 = .ok (.invokevirtual 28, 3) := by decide +kernel
theorem dX6_replay_29 : decode cX6_replay 29 = .ok (.aload_n 1, 1) := by decide +kernel
theorem dX6_replay_30 : decode cX6_replay 30 = .ok (.astore 4, 2) := by decide +kernel
theorem dX6_replay_32 : decode cX6_replay 32 = .ok (.aload 4, 2) := by decide +kernel
theorem dX6_replay_34 : decode cX6_replay 34 = .ok (.ifnull 56, 3) := by decide +kernel
theorem dX6_replay_37 : decode cX6_replay 37 = .ok (.aload 4, 2) := by decide +kernel
theorem dX6_replay_39 : decode cX6_replay 39 = .ok (.getfield 31, 3) := by decide +kernel
theorem dX6_replay_42 : decode cX6_replay 42 = .ok (.iload_n 3, 1) := by decide +kernel
theorem dX6_replay_43 : decode cX6_replay 43 = .ok (.if_icmp .gt 47, 3) := by decide +kernel
theorem dX6_replay_46 : decode cX6_replay 46 = .ok (.aload 4, 2) := by decide +kernel
theorem dX6_replay_48 : decode cX6_replay 48 = .ok (.getfield 36, 3) := by decide +kernel
theorem dX6_replay_51 : decode cX6_replay 51 = .ok (.iconst 3, 1) := by decide +kernel
theorem dX6_replay_52 : decode cX6_replay 52 = .ok (.if_icmp .ne 13, 3) := by decide +kernel
theorem dX6_replay_55 : decode cX6_replay 55 = .ok (.aload_n 0, 1) := by decide +kernel
theorem dX6_replay_56 : decode cX6_replay 56 = .ok (.aload 4, 2) := by decide +kernel
theorem dX6_replay_58 : decode cX6_replay 58 = .ok (.iload_n 2, 1) := by decide +kernel
theorem dX6_replay_59 : decode cX6_replay 59 = .ok (.invokevirtual 39, 3) := by decide +kernel
theorem dX6_replay_62 : decode cX6_replay 62 = .ok (.goto 18, 3) := by decide +kernel
theorem dX6_replay_65 : decode cX6_replay 65 = .ok (.aload 4, 2) := by decide +kernel
theorem dX6_replay_67 : decode cX6_replay 67 = .ok (.getfield 43, 3) := by decide +kernel
theorem dX6_replay_70 : decode cX6_replay 70 = .ok (.iload_n 2, 1) := by decide +kernel
theorem dX6_replay_71 : decode cX6_replay 71 = .ok (.if_icmp .ne 9, 3) := by decide +kernel
theorem dX6_replay_74 : decode cX6_replay 74 = .ok (.aload_n 0, 1) := by decide +kernel
theorem dX6_replay_75 : decode cX6_replay 75 = .ok (.aload 4, 2) := by decide +kernel
theorem dX6_replay_77 : decode cX6_replay 77 = .ok (.invokevirtual 46, 3) := by decide +kernel
theorem dX6_replay_80 : decode cX6_replay 80 = .ok (.aload 4, 2) := by decide +kernel
theorem dX6_replay_82 : decode cX6_replay 82 = .ok (.getfield 50, 3) := by decide +kernel
theorem dX6_replay_85 : decode cX6_replay 85 = .ok (.astore 4, 2) := by decide +kernel
theorem dX6_replay_87 : decode cX6_replay 87 = .ok (.goto (-55), 3) := by decide +kernel
theorem dX6_replay_90 : decode cX6_replay 90 = .ok (.return_, 1) := by decide +kernel
theorem dX6_apply_0 : decode cX6_apply 0 = .ok (.aload_n 1, 1) := by decide +kernel
theorem dX6_apply_1 : decode cX6_apply 1 = .ok (.getfield 36, 3) := by decide +kernel
theorem dX6_apply_4 : decode cX6_apply 4 = .ok (.ifCond .ne 25, 3) := by decide +kernel
theorem dX6_apply_7 : decode cX6_apply 7 = .ok (.aload_n 0, 1) := by decide +kernel
theorem dX6_apply_8 : decode cX6_apply 8 = .ok (.aload_n 1, 1) := by decide +kernel
theorem dX6_apply_9 : decode cX6_apply 9 = .ok (.invokevirtual 54, 3) := by decide +kernel
theorem dX6_apply_12 : decode cX6_apply 12 = .ok (.aload_n 0, 1) := by decide +kernel
theorem dX6_apply_13 : decode cX6_apply 13 = .ok (.dup, 1) := by decide +kernel
theorem dX6_apply_14 : decode cX6_apply 14 = .ok (.getfield 15, 3) := by decide +kernel
theorem dX6_apply_17 : decode cX6_apply 17 = .ok (.aload_n 1, 1) := by decide +kernel
theorem dX6_apply_18 : decode cX6_apply 18 = .ok (.getfield 57, 3) := by decide +kernel
theorem dX6_apply_21 : decode cX6_apply 21 = .ok (.i2l, 1) := by decide +kernel
theorem dX6_apply_22 : decode cX6_apply 22 = .ok (.ladd, 1) := by decide +kernel
theorem dX6_apply_23 : decode cX6_apply 23 = .ok (.putfield 15, 3) := by decide +kernel
theorem dX6_apply_26 : decode cX6_apply 26 = .ok (.goto 67, 3) := by decide +kernel
theorem dX6_apply_29 : decode cX6_apply 29 = .ok (.aload_n 1, 1) := by decide +kernel
theorem dX6_apply_30 : decode cX6_apply 30 = .ok (.getfield 36, 3) := by decide +kernel
theorem dX6_apply_33 : decode cX6_apply 33 = .ok (.iconst 1, 1) := by decide +kernel
theorem dX6_apply_34 : decode cX6_apply 34 = .ok (.if_icmp .ne 31, 3) := by decide +kernel
theorem dX6_apply_37 : decode cX6_apply 37 = .ok (.aload_n 1, 1) := by decide +kernel
theorem dX6_apply_38 : decode cX6_apply 38 = .ok (.aload_n 0, 1) := by decide +kernel
theorem dX6_apply_39 : decode cX6_apply 39 = .ok (.aload_n 1, 1) := by decide +kernel
theorem dX6_apply_40 : decode cX6_apply 40 = .ok (.getfield 60, 3) := by decide +kernel
theorem dX6_apply_43 : decode cX6_apply 43 = .ok (.invokevirtual 63, 3) := by decide +kernel
theorem dX6_apply_46 : decode cX6_apply 46 = .ok (.putfield 67, 3) := by decide +kernel
theorem dX6_apply_49 : decode cX6_apply 49 = .ok (.aload_n 0, 1) := by decide +kernel
theorem dX6_apply_50 : decode cX6_apply 50 = .ok (.dup, 1) := by decide +kernel
theorem dX6_apply_51 : decode cX6_apply 51 = .ok (.getfield 19, 3) := by decide +kernel
theorem dX6_apply_54 : decode cX6_apply 54 = .ok (.aload_n 1, 1) := by decide +kernel
theorem dX6_apply_55 : decode cX6_apply 55 = .ok (.getfield 67, 3) := by decide +kernel
theorem dX6_apply_58 : decode cX6_apply 58 = .ok (.ladd, 1) := by decide +kernel
theorem dX6_apply_59 : decode cX6_apply 59 = .ok (.putfield 19, 3) := by decide +kernel
theorem dX6_apply_62 : decode cX6_apply 62 = .ok (.goto 31, 3) := by decide +kernel
theorem dX6_apply_65 : decode cX6_apply 65 = .ok (.aload_n 0, 1) := by decide +kernel
theorem dX6_apply_66 : decode cX6_apply 66 = .ok (.dup, 1) := by decide +kernel
theorem dX6_apply_67 : decode cX6_apply 67 = .ok (.getfield 22, 3) := by decide +kernel
theorem dX6_apply_70 : decode cX6_apply 70 = .ok (.aload_n 1, 1) := by decide +kernel
theorem dX6_apply_71 : decode cX6_apply 71 = .ok (.getfield 57, 3) := by decide +kernel
theorem dX6_apply_74 : decode cX6_apply 74 = .ok (.i2l, 1) := by decide +kernel
theorem dX6_apply_75 : decode cX6_apply 75 = .ok (.aload_n 0, 1) := by decide +kernel
theorem dX6_apply_76 : decode cX6_apply 76 = .ok (.aload_n 1, 1) := by decide +kernel
theorem dX6_apply_77 : decode cX6_apply 77 = .ok (.getfield 60, 3) := by decide +kernel
theorem dX6_apply_80 : decode cX6_apply 80 = .ok (.invokevirtual 63, 3) := by decide +kernel
theorem dX6_apply_83 : decode cX6_apply 83 = .ok (.lsub, 1) := by decide +kernel
theorem dX6_apply_84 : decode cX6_apply 84 = .ok (.ladd, 1) := by decide +kernel
theorem dX6_apply_85 : decode cX6_apply 85 = .ok (.putfield 22, 3) := by decide +kernel
theorem dX6_apply_88 : decode cX6_apply 88 = .ok (.aload_n 0, 1) := by decide +kernel
theorem dX6_apply_89 : decode cX6_apply 89 = .ok (.aload_n 1, 1) := by decide +kernel
theorem dX6_apply_90 : decode cX6_apply 90 = .ok (.invokevirtual 70, 3) := by decide +kernel
theorem dX6_apply_93 : decode cX6_apply 93 = .ok (.aload_n 0, 1) := by decide +kernel
theorem dX6_apply_94 : decode cX6_apply 94 = .ok (.dup, 1) := by decide +kernel
theorem dX6_apply_95 : decode cX6_apply 95 = .ok (.getfield 9, 3) := by decide +kernel
theorem dX6_apply_98 : decode cX6_apply 98 = .ok (.aload_n 1, 1) := by decide +kernel
theorem dX6_apply_99 : decode cX6_apply 99 = .ok (.invokevirtual 73, 3) := by decide +kernel
theorem dX6_apply_102 : decode cX6_apply 102 = .ok (.iadd, 1) := by decide +kernel
theorem dX6_apply_103 : decode cX6_apply 103 = .ok (.putfield 9, 3) := by decide +kernel
theorem dX6_apply_106 : decode cX6_apply 106 = .ok (.return_, 1) := by decide +kernel
theorem dX6_applyShares_0 : decode cX6_applyShares 0 = .ok (.aload_n 1, 1) := by decide +kernel
theorem dX6_applyShares_1 : decode cX6_applyShares 1 = .ok (.getfield 77, 3) := by decide +kernel
theorem dX6_applyShares_4 : decode cX6_applyShares 4 = .ok (.astore_n 3, 1) := by decide +kernel
theorem dX6_applyShares_5 : decode cX6_applyShares 5 = .ok (.aload_n 3, 1) := by decide +kernel
theorem dX6_applyShares_6 : decode cX6_applyShares 6 = .ok (.ifnull 63, 3) := by decide +kernel
theorem dX6_applyShares_9 : decode cX6_applyShares 9 = .ok (.aload_n 3, 1) := by decide +kernel
theorem dX6_applyShares_10 : decode cX6_applyShares 10 = .ok (.getfield 81, 3) := by decide +kernel
theorem dX6_applyShares_13 : decode cX6_applyShares 13 = .ok (.getfield 43, 3) := by decide +kernel
theorem dX6_applyShares_16 : decode cX6_applyShares 16 = .ok (.iload_n 2, 1) := by decide +kernel
theorem dX6_applyShares_17 : decode cX6_applyShares 17 = .ok (.if_icmp .ne 44, 3) := by decide +kernel
theorem dX6_applyShares_20 : decode cX6_applyShares 20 = .ok (.aload_n 0, 1) := by decide +kernel
theorem dX6_applyShares_21 : decode cX6_applyShares 21 = .ok (.dup, 1) := by decide +kernel
theorem dX6_applyShares_22 : decode cX6_applyShares 22 = .ok (.getfield 15, 3) := by decide +kernel
theorem dX6_applyShares_25 : decode cX6_applyShares 25 = .ok (.aload_n 3, 1) := by decide +kernel
theorem dX6_applyShares_26 : decode cX6_applyShares 26 = .ok (.getfield 86, 3) := by decide +kernel
theorem dX6_applyShares_29 : decode cX6_applyShares 29 = .ok (.i2l, 1) := by decide +kernel
theorem dX6_applyShares_30 : decode cX6_applyShares 30 = .ok (.ladd, 1) := by decide +kernel
theorem dX6_applyShares_31 : decode cX6_applyShares 31 = .ok (.putfield 15, 3) := by decide +kernel
theorem dX6_applyShares_34 : decode cX6_applyShares 34 = .ok (.aload_n 0, 1) := by decide +kernel
theorem dX6_applyShares_35 : decode cX6_applyShares 35 = .ok (.dup, 1) := by decide +kernel
theorem dX6_applyShares_36 : decode cX6_applyShares 36 = .ok (.getfield 25, 3) := by decide +kernel
theorem dX6_applyShares_39 : decode cX6_applyShares 39 = .ok (.aload_n 3, 1) := by decide +kernel
theorem dX6_applyShares_40 : decode cX6_applyShares 40 = .ok (.getfield 86, 3) := by decide +kernel
theorem dX6_applyShares_43 : decode cX6_applyShares 43 = .ok (.i2l, 1) := by decide +kernel
theorem dX6_applyShares_44 : decode cX6_applyShares 44 = .ok (.aload_n 0, 1) := by decide +kernel
theorem dX6_applyShares_45 : decode cX6_applyShares 45 = .ok (.aload_n 3, 1) := by decide +kernel
theorem dX6_applyShares_46 : decode cX6_applyShares 46 = .ok (.getfield 81, 3) := by decide +kernel
theorem dX6_applyShares_49 : decode cX6_applyShares 49 = .ok (.aload_n 3, 1) := by decide +kernel
theorem dX6_applyShares_50 : decode cX6_applyShares 50 = .ok (.getfield 86, 3) := by decide +kernel
theorem dX6_applyShares_53 : decode cX6_applyShares 53 = .ok (.invokevirtual 89, 3) := by decide +kernel
theorem dX6_applyShares_56 : decode cX6_applyShares 56 = .ok (.lsub, 1) := by decide +kernel
theorem dX6_applyShares_57 : decode cX6_applyShares 57 = .ok (.ladd, 1) := by decide +kernel
theorem dX6_applyShares_58 : decode cX6_applyShares 58 = .ok (.putfield 25, 3) := by decide +kernel
theorem dX6_applyShares_61 : decode cX6_applyShares 61 = .ok (.aload_n 3, 1) := by decide +kernel
theorem dX6_applyShares_62 : decode cX6_applyShares 62 = .ok (.getfield 93, 3) := by decide +kernel
theorem dX6_applyShares_65 : decode cX6_applyShares 65 = .ok (.astore_n 3, 1) := by decide +kernel
theorem dX6_applyShares_66 : decode cX6_applyShares 66 = .ok (.goto (-61), 3) := by decide +kernel
theorem dX6_applyShares_69 : decode cX6_applyShares 69 = .ok (.return_, 1) := by decide +kernel
theorem dX6_portion_0 : decode cX6_portion 0 = .ok (.aload_n 0, 1) := by decide +kernel
theorem dX6_portion_1 : decode cX6_portion 1 = .ok (.getfield 60, 3) := by decide +kernel
theorem dX6_portion_4 : decode cX6_portion 4 = .ok (.ifCond .le 17, 3) := by decide +kernel
theorem dX6_portion_7 : decode cX6_portion 7 = .ok (.iload_n 1, 1) := by decide +kernel
theorem dX6_portion_8 : decode cX6_portion 8 = .ok (.i2l, 1) := by decide +kernel
theorem dX6_portion_9 : decode cX6_portion 9 = .ok (.iload_n 2, 1) := by decide +kernel
theorem dX6_portion_10 : decode cX6_portion 10 = .ok (.i2l, 1) := by decide +kernel
theorem dX6_portion_11 : decode cX6_portion 11 = .ok (.lmul, 1) := by decide +kernel
theorem dX6_portion_12 : decode cX6_portion 12 = .ok (.aload_n 0, 1) := by decide +kernel
theorem dX6_portion_13 : decode cX6_portion 13 = .ok (.getfield 60, 3) := by decide +kernel
theorem dX6_portion_16 : decode cX6_portion 16 = .ok (.i2l, 1) := by decide +kernel
theorem dX6_portion_17 : decode cX6_portion 17 = .ok (.ldiv, 1) := by decide +kernel
theorem dX6_portion_18 : decode cX6_portion 18 = .ok (.goto 4, 3) := by decide +kernel
theorem dX6_portion_21 : decode cX6_portion 21 = .ok (.lconst 0, 1) := by decide +kernel
theorem dX6_portion_22 : decode cX6_portion 22 = .ok (.lreturn, 1) := by decide +kernel
theorem dX7_init_0 : decode cX7_init 0 = .ok (.aload_n 0, 1) := by decide +kernel
theorem dX7_init_1 : decode cX7_init 1 = .ok (.invokespecial 1, 3) := by decide +kernel
theorem dX7_init_4 : decode cX7_init 4 = .ok (.aload_n 0, 1) := by decide +kernel
theorem dX7_init_5 : decode cX7_init 5 = .ok (.bipush 60, 2) := by decide +kernel
theorem dX7_init_7 : decode cX7_init 7 = .ok (.anewarray 9, 3) := by decide +kernel
theorem dX7_init_10 : decode cX7_init 10 = .ok (.putfield 11, 3) := by decide +kernel
theorem dX7_init_13 : decode cX7_init 13 = .ok (.aload_n 0, 1) := by decide +kernel
theorem dX7_init_14 : decode cX7_init 14 = .ok (.new 15, 3) := by decide +kernel
theorem dX7_init_17 : decode cX7_init 17 = .ok (.dup, 1) := by decide +kernel
theorem dX7_init_18 : decode cX7_init 18 = .ok (.invokespecial 17, 3) := by decide +kernel
theorem dX7_init_21 : decode cX7_init 21 = .ok (.putfield 18, 3) := by decide +kernel
theorem dX7_init_24 : decode cX7_init 24 = .ok (.aload_n 0, 1) := by decide +kernel
theorem dX7_init_25 : decode cX7_init 25 = .ok (.new 22, 3) := by decide +kernel
theorem dX7_init_28 : decode cX7_init 28 = .ok (.dup, 1) := by decide +kernel
theorem dX7_init_29 : decode cX7_init 29 = .ok (.invokespecial 24, 3) := by decide +kernel
theorem dX7_init_32 : decode cX7_init 32 = .ok (.putfield 25, 3) := by decide +kernel
theorem dX7_init_35 : decode cX7_init 35 = .ok (.aload_n 0, 1) := by decide +kernel
theorem dX7_init_36 : decode cX7_init 36 = .ok (.new 29, 3) := by decide +kernel
theorem dX7_init_39 : decode cX7_init 39 = .ok (.dup, 1) := by decide +kernel
theorem dX7_init_40 : decode cX7_init 40 = .ok (.invokespecial 31, 3) := by decide +kernel
theorem dX7_init_43 : decode cX7_init 43 = .ok (.putfield 32, 3) := by decide +kernel
theorem dX7_init_46 : decode cX7_init 46 = .ok (.aload_n 0, 1) := by decide +kernel
theorem dX7_init_47 : decode cX7_init 47 = .ok (.bipush 6, 2) := by decide +kernel
theorem dX7_init_49 : decode cX7_init 49 = .ok (.newarray .int, 2) := by decide +kernel
theorem dX7_init_51 : decode cX7_init 51 = .ok (.putfield 36, 3) := by decide +kernel
theorem dX7_init_54 : decode cX7_init 54 = .ok (.iconst 0, 1) := by decide +kernel
theorem dX7_init_55 : decode cX7_init 55 = .ok (.istore_n 1, 1) := by decide +kernel
theorem dX7_init_56 : decode cX7_init 56 = .ok (.iload_n 1, 1) := by decide +kernel
theorem dX7_init_57 : decode cX7_init 57 = .ok (.aload_n 0, 1) := by decide +kernel
theorem dX7_init_58 : decode cX7_init 58 = .ok (.getfield 36, 3) := by decide +kernel
theorem dX7_init_61 : decode cX7_init 61 = .ok (.arraylength, 1) := by decide +kernel
theorem dX7_init_62 : decode cX7_init 62 = .ok (.if_icmp .ge 16, 3) := by decide +kernel
theorem dX7_init_65 : decode cX7_init 65 = .ok (.aload_n 0, 1) := by decide +kernel
theorem dX7_init_66 : decode cX7_init 66 = .ok (.getfield 36, 3) := by decide +kernel
theorem dX7_init_69 : decode cX7_init 69 = .ok (.iload_n 1, 1) := by decide +kernel
theorem dX7_init_70 : decode cX7_init 70 = .ok (.iconst 1, 1) := by decide +kernel
theorem dX7_init_71 : decode cX7_init 71 = .ok (.iastore, 1) := by decide +kernel
theorem dX7_init_72 : decode cX7_init 72 = .ok (.iinc 1 1, 3) := by decide +kernel
theorem dX7_init_75 : decode cX7_init 75 = .ok (.goto (-19), 3) := by decide +kernel
theorem dX7_init_78 : decode cX7_init 78 = .ok (.aload_n 0, 1) := by decide +kernel
theorem dX7_init_79 : decode cX7_init 79 = .ok (.iconst (-1), 1) := by decide +kernel
theorem dX7_init_80 : decode cX7_init 80 = .ok (.putfield 40, 3) := by decide +kernel
theorem dX7_init_83 : decode cX7_init 83 = .ok (.return_, 1) := by decide +kernel
theorem dX7_receive_0 : decode cX7_receive 0 = .ok (.iload_n 2, 1) := by decide +kernel
theorem dX7_receive_1 : decode cX7_receive 1 = .ok (.iload_n 1, 1) := by decide +kernel
theorem dX7_receive_2 : decode cX7_receive 2 = .ok (.invokestatic 44, 3) := by decide +kernel
theorem dX7_receive_5 : decode cX7_receive 5 = .ok (.iload_n 3, 1) := by decide +kernel
theorem dX7_receive_6 : decode cX7_receive 6 = .ok (.iconst 1, 1) := by decide +kernel
theorem dX7_receive_7 : decode cX7_receive 7 = .ok (.sipush 1000, 3) := by decide +kernel
theorem dX7_receive_10 : decode cX7_receive 10 = .ok (.invokestatic 48, 3) := by decide +kernel
theorem dX7_receive_13 : decode cX7_receive 13 = .ok (.iload 4, 2) := by decide +kernel
theorem dX7_receive_15 : decode cX7_receive 15 = .ok (.iconst 0, 1) := by decide +kernel
theorem dX7_receive_16 : decode cX7_receive 16 = .ok (.ldc 52, 2) := by decide +kernel
theorem dX7_receive_18 : decode cX7_receive 18 = .ok (.invokestatic 48, 3) := by decide +kernel
theorem dX7_receive_21 : decode cX7_receive 21 = .ok (.aload_n 0, 1) := by decide +kernel
theorem dX7_receive_22 : decode cX7_receive 22 = .ok (.iload_n 1, 1) := by decide +kernel
theorem dX7_receive_23 : decode cX7_receive 23 = .ok (.invokevirtual 53, 3) := by decide +kernel
theorem dX7_receive_26 : decode cX7_receive 26 = .ok (.aload_n 0, 1) := by decide +kernel
theorem dX7_receive_27 : decode cX7_receive 27 = .ok (.new 9, 3) := by decide +kernel
theorem dX7_receive_30 : decode cX7_receive 30 = .ok (.dup, 1) := by decide +kernel
theorem dX7_receive_31 : decode cX7_receive 31 = .ok (.aload_n 0, 1) := by decide +kernel
theorem dX7_receive_32 : decode cX7_receive 32 = .ok (.getfield 57, 3) := by decide +kernel
theorem dX7_receive_35 : decode cX7_receive 35 = .ok (.iconst 0, 1) := by decide +kernel
theorem dX7_receive_36 : decode cX7_receive 36 = .ok (.iload_n 1, 1) := by decide +kernel
theorem dX7_receive_37 : decode cX7_receive 37 = .ok (.iload_n 2, 1) := by decide +kernel
theorem dX7_receive_38 : decode cX7_receive 38 = .ok (.iload_n 3, 1) := by decide +kernel
theorem dX7_receive_39 : decode cX7_receive 39 = .ok (.iload 4, 2) := by decide +kernel
theorem dX7_receive_41 : decode cX7_receive 41 = .ok (.invokespecial 60, 3) := by decide +kernel
theorem dX7_receive_44 : decode cX7_receive 44 = .ok (.invokevirtual 63, 3) := by decide +kernel
theorem dX7_receive_47 : decode cX7_receive 47 = .ok (.ireturn, 1) := by decide +kernel
theorem dX7_issue_0 : decode cX7_issue 0 = .ok (.iload_n 2, 1) := by decide +kernel
theorem dX7_issue_1 : decode cX7_issue 1 = .ok (.iload_n 1, 1) := by decide +kernel
theorem dX7_issue_2 : decode cX7_issue 2 = .ok (.invokestatic 44, 3) := by decide +kernel
theorem dX7_issue_5 : decode cX7_issue 5 = .ok (.iload_n 3, 1) := by decide +kernel
theorem dX7_issue_6 : decode cX7_issue 6 = .ok (.iconst 1, 1) := by decide +kernel
theorem dX7_issue_7 : decode cX7_issue 7 = .ok (.sipush 1000, 3) := by decide +kernel
theorem dX7_issue_10 : decode cX7_issue 10 = .ok (.invokestatic 48, 3) := by decide +kernel
theorem dX7_issue_13 : decode cX7_issue 13 = .ok (.aload_n 0, 1) := by decide +kernel
theorem dX7_issue_14 : decode cX7_issue 14 = .ok (.iload_n 1, 1) := by decide +kernel
theorem dX7_issue_15 : decode cX7_issue 15 = .ok (.invokevirtual 53, 3) := by decide +kernel
theorem dX7_issue_18 : decode cX7_issue 18 = .ok (.iload_n 3, 1) := by decide +kernel
theorem dX7_issue_19 : decode cX7_issue 19 = .ok (.aload_n 0, 1) := by decide +kernel
theorem dX7_issue_20 : decode cX7_issue 20 = .ok (.getfield 18, 3) := by decide +kernel
theorem dX7_issue_23 : decode cX7_issue 23 = .ok (.iload_n 2, 1) := by decide +kernel
theorem dX7_issue_24 : decode cX7_issue 24 = .ok (.iload_n 1, 1) := by decide +kernel
theorem dX7_issue_25 : decode cX7_issue 25 = .ok (.bipush 60, 2) := by decide +kernel
theorem dX7_issue_27 : decode cX7_issue 27 = .ok (.invokevirtual 67, 3) := by decide +kernel
theorem dX7_issue_30 : decode cX7_issue 30 = .ok (.invokestatic 71, 3) := by decide +kernel
theorem dX7_issue_33 : decode cX7_issue 33 = .ok (.aload_n 0, 1) := by decide +kernel
theorem dX7_issue_34 : decode cX7_issue 34 = .ok (.new 9, 3) := by decide +kernel
theorem dX7_issue_37 : decode cX7_issue 37 = .ok (.dup, 1) := by decide +kernel
theorem dX7_issue_38 : decode cX7_issue 38 = .ok (.aload_n 0, 1) := by decide +kernel
theorem dX7_issue_39 : decode cX7_issue 39 = .ok (.getfield 57, 3) := by decide +kernel
theorem dX7_issue_42 : decode cX7_issue 42 = .ok (.iconst 1, 1) := by decide +kernel
theorem dX7_issue_43 : decode cX7_issue 43 = .ok (.iload_n 1, 1) := by decide +kernel
theorem dX7_issue_44 : decode cX7_issue 44 = .ok (.iload_n 2, 1) := by decide +kernel
theorem dX7_issue_45 : decode cX7_issue 45 = .ok (.iload_n 3, 1) := by decide +kernel
theorem dX7_issue_46 : decode cX7_issue 46 = .ok (.iconst 0, 1) := by decide +kernel
theorem dX7_issue_47 : decode cX7_issue 47 = .ok (.invokespecial 60, 3) := by decide +kernel
theorem dX7_issue_50 : decode cX7_issue 50 = .ok (.invokevirtual 63, 3) := by decide +kernel
theorem dX7_issue_53 : decode cX7_issue 53 = .ok (.ireturn, 1) := by decide +kernel
theorem dX7_revalue_0 : decode cX7_revalue 0 = .ok (.iload_n 2, 1) := by decide +kernel
theorem dX7_revalue_1 : decode cX7_revalue 1 = .ok (.iload_n 1, 1) := by decide +kernel
theorem dX7_revalue_2 : decode cX7_revalue 2 = .ok (.invokestatic 44, 3) := by decide +kernel
theorem dX7_revalue_5 : decode cX7_revalue 5 = .ok (.iload_n 3, 1) := by decide +kernel
theorem dX7_revalue_6 : decode cX7_revalue 6 = .ok (.iconst 1, 1) := by decide +kernel
theorem dX7_revalue_7 : decode cX7_revalue 7 = .ok (.sipush 1000, 3) := by decide +kernel
theorem dX7_revalue_10 : decode cX7_revalue 10 = .ok (.invokestatic 48, 3) := by decide +kernel
theorem dX7_revalue_13 : decode cX7_revalue 13 = .ok (.iload 4, 2) := by decide +kernel
theorem dX7_revalue_15 : decode cX7_revalue 15 = .ok (.iconst 0, 1) := by decide +kernel
theorem dX7_revalue_16 : decode cX7_revalue 16 = .ok (.ldc 52, 2) := by decide +kernel
theorem dX7_revalue_18 : decode cX7_revalue 18 = .ok (.invokestatic 48, 3) := by decide +kernel
theorem dX7_revalue_21 : decode cX7_revalue 21 = .ok (.aload_n 0, 1) := by decide +kernel
theorem dX7_revalue_22 : decode cX7_revalue 22 = .ok (.iload_n 1, 1) := by decide +kernel
theorem dX7_revalue_23 : decode cX7_revalue 23 = .ok (.invokevirtual 53, 3) := by decide +kernel
theorem dX7_revalue_26 : decode cX7_revalue 26 = .ok (.iload_n 3, 1) := by decide +kernel
theorem dX7_revalue_27 : decode cX7_revalue 27 = .ok (.aload_n 0, 1) := by decide +kernel
theorem dX7_revalue_28 : decode cX7_revalue 28 = .ok (.getfield 18, 3) := by decide +kernel
theorem dX7_revalue_31 : decode cX7_revalue 31 = .ok (.iload_n 2, 1) := by decide +kernel
theorem dX7_revalue_32 : decode cX7_revalue 32 = .ok (.iload_n 1, 1) := by decide +kernel
theorem dX7_revalue_33 : decode cX7_revalue 33 = .ok (.invokevirtual 74, 3) := by decide +kernel
theorem dX7_revalue_36 : decode cX7_revalue 36 = .ok (.invokestatic 71, 3) := by decide +kernel
theorem dX7_revalue_39 : decode cX7_revalue 39 = .ok (.aload_n 0, 1) := by decide +kernel
theorem dX7_revalue_40 : decode cX7_revalue 40 = .ok (.new 9, 3) := by decide +kernel
theorem dX7_revalue_43 : decode cX7_revalue 43 = .ok (.dup, 1) := by decide +kernel
theorem dX7_revalue_44 : decode cX7_revalue 44 = .ok (.aload_n 0, 1) := by decide +kernel
theorem dX7_revalue_45 : decode cX7_revalue 45 = .ok (.getfield 57, 3) := by decide +kernel
theorem dX7_revalue_48 : decode cX7_revalue 48 = .ok (.iconst 2, 1) := by decide +kernel
theorem dX7_revalue_49 : decode cX7_revalue 49 = .ok (.iload_n 1, 1) := by decide +kernel
theorem dX7_revalue_50 : decode cX7_revalue 50 = .ok (.iload_n 2, 1) := by decide +kernel
theorem dX7_revalue_51 : decode cX7_revalue 51 = .ok (.iload_n 3, 1) := by decide +kernel
theorem dX7_revalue_52 : decode cX7_revalue 52 = .ok (.iload 4, 2) := by decide +kernel
theorem dX7_revalue_54 : decode cX7_revalue 54 = .ok (.invokespecial 60, 3) := by decide +kernel
theorem dX7_revalue_57 : decode cX7_revalue 57 = .ok (.invokevirtual 63, 3) := by decide +kernel
theorem dX7_revalue_60 : decode cX7_revalue 60 = .ok (.ireturn, 1) := by decide +kernel
theorem dX7_land_0 : decode cX7_land 0 = .ok (.iload_n 1, 1) := by decide +kernel
theorem dX7_land_1 : decode cX7_land 1 = .ok (.iconst 0, 1) := by decide +kernel
theorem dX7_land_2 : decode cX7_land 2 = .ok (.sipush 364, 3) := by decide +kernel
theorem dX7_land_5 : decode cX7_land 5 = .ok (.invokestatic 48, 3) := by decide +kernel
theorem dX7_land_8 : decode cX7_land 8 = .ok (.iload_n 2, 1) := by decide +kernel
theorem dX7_land_9 : decode cX7_land 9 = .ok (.iconst 1, 1) := by decide +kernel
theorem dX7_land_10 : decode cX7_land 10 = .ok (.ldc 52, 2) := by decide +kernel
theorem dX7_land_12 : decode cX7_land 12 = .ok (.invokestatic 48, 3) := by decide +kernel
theorem dX7_land_15 : decode cX7_land 15 = .ok (.iload_n 3, 1) := by decide +kernel
theorem dX7_land_16 : decode cX7_land 16 = .ok (.iconst 0, 1) := by decide +kernel
theorem dX7_land_17 : decode cX7_land 17 = .ok (.iconst 2, 1) := by decide +kernel
theorem dX7_land_18 : decode cX7_land 18 = .ok (.invokestatic 48, 3) := by decide +kernel
theorem dX7_land_21 : decode cX7_land 21 = .ok (.lload 4, 2) := by decide +kernel
theorem dX7_land_23 : decode cX7_land 23 = .ok (.lconst 0, 1) := by decide +kernel
theorem dX7_land_24 : decode cX7_land 24 = .ok (.lcmp, 1) := by decide +kernel
theorem dX7_land_25 : decode cX7_land 25 = .ok (.ifCond .ne 13, 3) := by decide +kernel
theorem dX7_land_28 : decode cX7_land 28 = .ok (.new 78, 3) := by decide +kernel
theorem dX7_land_31 : decode cX7_land 31 = .ok (.dup, 1) := by decide +kernel
theorem dX7_land_32 : decode cX7_land 32 = .ok (.ldc 80, 2) := by decide +kernel
theorem dX7_land_34 : decode cX7_land 34 = .ok (.invokespecial 82, 3) := by decide +kernel
theorem dX7_land_37 : decode cX7_land 37 = .ok (.athrow, 1) := by decide +kernel
theorem dX7_land_38 : decode cX7_land 38 = .ok (.lload 4, 2) := by decide +kernel
theorem dX7_land_40 : decode cX7_land 40 = .ok (.aload_n 0, 1) := by decide +kernel
theorem dX7_land_41 : decode cX7_land 41 = .ok (.getfield 57, 3) := by decide +kernel
theorem dX7_land_44 : decode cX7_land 44 = .ok (.lushr, 1) := by decide +kernel
theorem dX7_land_45 : decode cX7_land 45 = .ok (.lconst 0, 1) := by decide +kernel
theorem dX7_land_46 : decode cX7_land 46 = .ok (.lcmp, 1) := by decide +kernel
theorem dX7_land_47 : decode cX7_land 47 = .ok (.ifCond .eq 13, 3) := by decide +kernel
theorem dX7_land_50 : decode cX7_land 50 = .ok (.new 85, 3) := by decide +kernel
theorem dX7_land_53 : decode cX7_land 53 = .ok (.dup, 1) := by decide +kernel
theorem dX7_land_54 : decode cX7_land 54 = .ok (.ldc 87, 2) := by decide +kernel
theorem dX7_land_56 : decode cX7_land 56 = .ok (.invokespecial 89, 3) := by decide +kernel
theorem dX7_land_59 : decode cX7_land 59 = .ok (.athrow, 1) := by decide +kernel
theorem dX7_land_60 : decode cX7_land 60 = .ok (.aload_n 0, 1) := by decide +kernel
theorem dX7_land_61 : decode cX7_land 61 = .ok (.iload_n 1, 1) := by decide +kernel
theorem dX7_land_62 : decode cX7_land 62 = .ok (.invokevirtual 53, 3) := by decide +kernel
theorem dX7_land_65 : decode cX7_land 65 = .ok (.aload_n 0, 1) := by decide +kernel
theorem dX7_land_66 : decode cX7_land 66 = .ok (.lload 4, 2) := by decide +kernel
theorem dX7_land_68 : decode cX7_land 68 = .ok (.iload_n 1, 1) := by decide +kernel
theorem dX7_land_69 : decode cX7_land 69 = .ok (.invokevirtual 90, 3) := by decide +kernel
theorem dX7_land_72 : decode cX7_land 72 = .ok (.aload_n 0, 1) := by decide +kernel
theorem dX7_land_73 : decode cX7_land 73 = .ok (.lload 4, 2) := by decide +kernel
theorem dX7_land_75 : decode cX7_land 75 = .ok (.iload_n 3, 1) := by decide +kernel
theorem dX7_land_76 : decode cX7_land 76 = .ok (.invokevirtual 94, 3) := by decide +kernel
theorem dX7_land_79 : decode cX7_land 79 = .ok (.lstore 6, 2) := by decide +kernel
theorem dX7_land_81 : decode cX7_land 81 = .ok (.lload 6, 2) := by decide +kernel
theorem dX7_land_83 : decode cX7_land 83 = .ok (.lconst 0, 1) := by decide +kernel
theorem dX7_land_84 : decode cX7_land 84 = .ok (.lcmp, 1) := by decide +kernel
theorem dX7_land_85 : decode cX7_land 85 = .ok (.ifCond .gt 13, 3) := by decide +kernel
theorem dX7_land_88 : decode cX7_land 88 = .ok (.new 98, 3) := by decide +kernel
theorem dX7_land_91 : decode cX7_land 91 = .ok (.dup, 1) := by decide +kernel
theorem dX7_land_92 : decode cX7_land 92 = .ok (.ldc 100, 2) := by decide +kernel
theorem dX7_land_94 : decode cX7_land 94 = .ok (.invokespecial 102, 3) := by decide +kernel
theorem dX7_land_97 : decode cX7_land 97 = .ok (.athrow, 1) := by decide +kernel
theorem dX7_land_98 : decode cX7_land 98 = .ok (.new 9, 3) := by decide +kernel
theorem dX7_land_101 : decode cX7_land 101 = .ok (.dup, 1) := by decide +kernel
theorem dX7_land_102 : decode cX7_land 102 = .ok (.aload_n 0, 1) := by decide +kernel
theorem dX7_land_103 : decode cX7_land 103 = .ok (.getfield 57, 3) := by decide +kernel
theorem dX7_land_106 : decode cX7_land 106 = .ok (.iconst 3, 1) := by decide +kernel
theorem dX7_land_107 : decode cX7_land 107 = .ok (.iload_n 1, 1) := by decide +kernel
theorem dX7_land_108 : decode cX7_land 108 = .ok (.iconst (-1), 1) := by decide +kernel
theorem dX7_land_109 : decode cX7_land 109 = .ok (.iconst 0, 1) := by decide +kernel
theorem dX7_land_110 : decode cX7_land 110 = .ok (.iload_n 2, 1) := by decide +kernel
theorem dX7_land_111 : decode cX7_land 111 = .ok (.invokespecial 60, 3) := by decide +kernel
theorem dX7_land_114 : decode cX7_land 114 = .ok (.astore 8, 2) := by decide +kernel
theorem dX7_land_116 : decode cX7_land 116 = .ok (.aload 8, 2) := by decide +kernel
theorem dX7_land_118 : decode cX7_land 118 = .ok (.aload_n 0, 1) := by decide +kernel
theorem dX7_land_119 : decode cX7_land 119 = .ok (.iload_n 2, 1) := by decide +kernel
theorem dX7_land_120 : decode cX7_land 120 = .ok (.iload_n 3, 1) := by decide +kernel
theorem dX7_land_121 : decode cX7_land 121 = .ok (.lload 4, 2) := by decide +kernel
theorem dX7_land_123 : decode cX7_land 123 = .ok (.lload 6, 2) := by decide +kernel
theorem dX7_land_125 : decode cX7_land 125 = .ok (.invokevirtual 103, 3) := by decide +kernel
theorem dX7_land_128 : decode cX7_land 128 = .ok (.putfield 107, 3) := by decide +kernel
theorem dX7_land_131 : decode cX7_land 131 = .ok (.aload_n 0, 1) := by decide +kernel
theorem dX7_land_132 : decode cX7_land 132 = .ok (.aload 8, 2) := by decide +kernel
theorem dX7_land_134 : decode cX7_land 134 = .ok (.invokevirtual 63, 3) := by decide +kernel
theorem dX7_land_137 : decode cX7_land 137 = .ok (.ireturn, 1) := by decide +kernel
theorem dX7_cancel_0 : decode cX7_cancel 0 = .ok (.aload_n 0, 1) := by decide +kernel
theorem dX7_cancel_1 : decode cX7_cancel 1 = .ok (.iload_n 1, 1) := by decide +kernel
theorem dX7_cancel_2 : decode cX7_cancel 2 = .ok (.invokevirtual 111, 3) := by decide +kernel
theorem dX7_cancel_5 : decode cX7_cancel 5 = .ok (.astore_n 2, 1) := by decide +kernel
theorem dX7_cancel_6 : decode cX7_cancel 6 = .ok (.aload_n 2, 1) := by decide +kernel
theorem dX7_cancel_7 : decode cX7_cancel 7 = .ok (.getfield 115, 3) := by decide +kernel
theorem dX7_cancel_10 : decode cX7_cancel 10 = .ok (.ifCond .eq 13, 3) := by decide +kernel
theorem dX7_cancel_13 : decode cX7_cancel 13 = .ok (.new 98, 3) := by decide +kernel
theorem dX7_cancel_16 : decode cX7_cancel 16 = .ok (.dup, 1) := by decide +kernel
theorem dX7_cancel_17 : decode cX7_cancel 17 = .ok (.ldc 119, 2) := by decide +kernel
theorem dX7_cancel_19 : decode cX7_cancel 19 = .ok (.invokespecial 102, 3) := by decide +kernel
theorem dX7_cancel_22 : decode cX7_cancel 22 = .ok (.athrow, 1) := by decide +kernel
theorem dX7_cancel_23 : decode cX7_cancel 23 = .ok (.aload_n 0, 1) := by decide +kernel
theorem dX7_cancel_24 : decode cX7_cancel 24 = .ok (.aload_n 2, 1) := by decide +kernel
theorem dX7_cancel_25 : decode cX7_cancel 25 = .ok (.getfield 121, 3) := by decide +kernel
theorem dX7_cancel_28 : decode cX7_cancel 28 = .ok (.invokevirtual 124, 3) := by decide +kernel
theorem dX7_cancel_31 : decode cX7_cancel 31 = .ok (.aload_n 2, 1) := by decide +kernel
theorem dX7_cancel_32 : decode cX7_cancel 32 = .ok (.getfield 127, 3) := by decide +kernel
theorem dX7_cancel_35 : decode cX7_cancel 35 = .ok (.ifCond .ne 8, 3) := by decide +kernel
theorem dX7_cancel_38 : decode cX7_cancel 38 = .ok (.aload_n 0, 1) := by decide +kernel
theorem dX7_cancel_39 : decode cX7_cancel 39 = .ok (.aload_n 2, 1) := by decide +kernel
theorem dX7_cancel_40 : decode cX7_cancel 40 = .ok (.invokevirtual 130, 3) := by decide +kernel
theorem dX7_cancel_43 : decode cX7_cancel 43 = .ok (.aload_n 2, 1) := by decide +kernel
theorem dX7_cancel_44 : decode cX7_cancel 44 = .ok (.iconst 1, 1) := by decide +kernel
theorem dX7_cancel_45 : decode cX7_cancel 45 = .ok (.putfield 115, 3) := by decide +kernel
theorem dX7_cancel_48 : decode cX7_cancel 48 = .ok (.aload_n 0, 1) := by decide +kernel
theorem dX7_cancel_49 : decode cX7_cancel 49 = .ok (.getfield 18, 3) := by decide +kernel
theorem dX7_cancel_52 : decode cX7_cancel 52 = .ok (.aload_n 2, 1) := by decide +kernel
theorem dX7_cancel_53 : decode cX7_cancel 53 = .ok (.invokevirtual 134, 3) := by decide +kernel
theorem dX7_cancel_56 : decode cX7_cancel 56 = .ok (.aload_n 0, 1) := by decide +kernel
theorem dX7_cancel_57 : decode cX7_cancel 57 = .ok (.getfield 18, 3) := by decide +kernel
theorem dX7_cancel_60 : decode cX7_cancel 60 = .ok (.getfield 137, 3) := by decide +kernel
theorem dX7_cancel_63 : decode cX7_cancel 63 = .ok (.ireturn, 1) := by decide +kernel
theorem dX7_close_0 : decode cX7_close 0 = .ok (.iload_n 1, 1) := by decide +kernel
theorem dX7_close_1 : decode cX7_close 1 = .ok (.iconst 0, 1) := by decide +kernel
theorem dX7_close_2 : decode cX7_close 2 = .ok (.sipush 364, 3) := by decide +kernel
theorem dX7_close_5 : decode cX7_close 5 = .ok (.invokestatic 48, 3) := by decide +kernel
theorem dX7_close_8 : decode cX7_close 8 = .ok (.aload_n 0, 1) := by decide +kernel
theorem dX7_close_9 : decode cX7_close 9 = .ok (.iload_n 1, 1) := by decide +kernel
theorem dX7_close_10 : decode cX7_close 10 = .ok (.invokevirtual 124, 3) := by decide +kernel
theorem dX7_close_13 : decode cX7_close 13 = .ok (.aload_n 0, 1) := by decide +kernel
theorem dX7_close_14 : decode cX7_close 14 = .ok (.getfield 40, 3) := by decide +kernel
theorem dX7_close_17 : decode cX7_close 17 = .ok (.istore_n 2, 1) := by decide +kernel
theorem dX7_close_18 : decode cX7_close 18 = .ok (.aload_n 0, 1) := by decide +kernel
theorem dX7_close_19 : decode cX7_close 19 = .ok (.iload_n 1, 1) := by decide +kernel
theorem dX7_close_20 : decode cX7_close 20 = .ok (.putfield 40, 3) := by decide +kernel
theorem dX7_close_23 : decode cX7_close 23 = .ok (.iload_n 2, 1) := by decide +kernel
theorem dX7_close_24 : decode cX7_close 24 = .ok (.ireturn, 1) := by decide +kernel
theorem dX7_setWeight_0 : decode cX7_setWeight 0 = .ok (.iload_n 1, 1) := by decide +kernel
theorem dX7_setWeight_1 : decode cX7_setWeight 1 = .ok (.iconst 0, 1) := by decide +kernel
theorem dX7_setWeight_2 : decode cX7_setWeight 2 = .ok (.iconst 5, 1) := by decide +kernel
theorem dX7_setWeight_3 : decode cX7_setWeight 3 = .ok (.invokestatic 48, 3) := by decide +kernel
theorem dX7_setWeight_6 : decode cX7_setWeight 6 = .ok (.iload_n 2, 1) := by decide +kernel
theorem dX7_setWeight_7 : decode cX7_setWeight 7 = .ok (.iconst 1, 1) := by decide +kernel
theorem dX7_setWeight_8 : decode cX7_setWeight 8 = .ok (.bipush 100, 2) := by decide +kernel
theorem dX7_setWeight_10 : decode cX7_setWeight 10 = .ok (.invokestatic 48, 3) := by decide +kernel
theorem dX7_setWeight_13 : decode cX7_setWeight 13 = .ok (.aload_n 0, 1) := by decide +kernel
theorem dX7_setWeight_14 : decode cX7_setWeight 14 = .ok (.iload_n 1, 1) := by decide +kernel
theorem dX7_setWeight_15 : decode cX7_setWeight 15 = .ok (.invokevirtual 140, 3) := by decide +kernel
theorem dX7_setWeight_18 : decode cX7_setWeight 18 = .ok (.istore_n 3, 1) := by decide +kernel
theorem dX7_setWeight_19 : decode cX7_setWeight 19 = .ok (.iload_n 1, 1) := by decide +kernel
theorem dX7_setWeight_20 : decode cX7_setWeight 20 = .ok (.ifCond .lt 19, 3) := by decide +kernel
theorem dX7_setWeight_23 : decode cX7_setWeight 23 = .ok (.iload_n 1, 1) := by decide +kernel
theorem dX7_setWeight_24 : decode cX7_setWeight 24 = .ok (.aload_n 0, 1) := by decide +kernel
theorem dX7_setWeight_25 : decode cX7_setWeight 25 = .ok (.getfield 36, 3) := by decide +kernel
theorem dX7_setWeight_28 : decode cX7_setWeight 28 = .ok (.arraylength, 1) := by decide +kernel
theorem dX7_setWeight_29 : decode cX7_setWeight 29 = .ok (.if_icmp .ge 10, 3) := by decide +kernel
theorem dX7_setWeight_32 : decode cX7_setWeight 32 = .ok (.aload_n 0, 1) := by decide +kernel
theorem dX7_setWeight_33 : decode cX7_setWeight 33 = .ok (.getfield 36, 3) := by decide +kernel
theorem dX7_setWeight_36 : decode cX7_setWeight 36 = .ok (.iload_n 1, 1) := by decide +kernel
theorem dX7_setWeight_37 : decode cX7_setWeight 37 = .ok (.iload_n 2, 1) := by decide +kernel
theorem dX7_setWeight_38 : decode cX7_setWeight 38 = .ok (.iastore, 1) := by decide +kernel
theorem dX7_setWeight_39 : decode cX7_setWeight 39 = .ok (.iload_n 3, 1) := by decide +kernel
theorem dX7_setWeight_40 : decode cX7_setWeight 40 = .ok (.ireturn, 1) := by decide +kernel
theorem dX7_movements_0 : decode cX7_movements 0 = .ok (.aload_n 0, 1) := by decide +kernel
theorem dX7_movements_1 : decode cX7_movements 1 = .ok (.getfield 57, 3) := by decide +kernel
theorem dX7_movements_4 : decode cX7_movements 4 = .ok (.ireturn, 1) := by decide +kernel
theorem dX7_kindOf_0 : decode cX7_kindOf 0 = .ok (.aload_n 0, 1) := by decide +kernel
theorem dX7_kindOf_1 : decode cX7_kindOf 1 = .ok (.iload_n 1, 1) := by decide +kernel
theorem dX7_kindOf_2 : decode cX7_kindOf 2 = .ok (.invokevirtual 111, 3) := by decide +kernel
theorem dX7_kindOf_5 : decode cX7_kindOf 5 = .ok (.getfield 127, 3) := by decide +kernel
theorem dX7_kindOf_8 : decode cX7_kindOf 8 = .ok (.ireturn, 1) := by decide +kernel
theorem dX7_dayOf_0 : decode cX7_dayOf 0 = .ok (.aload_n 0, 1) := by decide +kernel
theorem dX7_dayOf_1 : decode cX7_dayOf 1 = .ok (.iload_n 1, 1) := by decide +kernel
theorem dX7_dayOf_2 : decode cX7_dayOf 2 = .ok (.invokevirtual 111, 3) := by decide +kernel
theorem dX7_dayOf_5 : decode cX7_dayOf 5 = .ok (.getfield 121, 3) := by decide +kernel
theorem dX7_dayOf_8 : decode cX7_dayOf 8 = .ok (.ireturn, 1) := by decide +kernel
theorem dX7_isCancelled_0 : decode cX7_isCancelled 0 = .ok (.aload_n 0, 1) := by decide +kernel
theorem dX7_isCancelled_1 : decode cX7_isCancelled 1 = .ok (.iload_n 1, 1) := by decide +kernel
theorem dX7_isCancelled_2 : decode cX7_isCancelled 2 = .ok (.invokevirtual 111, 3) := by decide +kernel
theorem dX7_isCancelled_5 : decode cX7_isCancelled 5 = .ok (.getfield 115, 3) := by decide +kernel
theorem dX7_isCancelled_8 : decode cX7_isCancelled 8 = .ok (.ireturn, 1) := by decide +kernel
theorem dX7_placeOf_0 : decode cX7_placeOf 0 = .ok (.aload_n 0, 1) := by decide +kernel
theorem dX7_placeOf_1 : decode cX7_placeOf 1 = .ok (.iload_n 1, 1) := by decide +kernel
theorem dX7_placeOf_2 : decode cX7_placeOf 2 = .ok (.invokevirtual 111, 3) := by decide +kernel
theorem dX7_placeOf_5 : decode cX7_placeOf 5 = .ok (.astore_n 2, 1) := by decide +kernel
theorem dX7_placeOf_6 : decode cX7_placeOf 6 = .ok (.aload_n 2, 1) := by decide +kernel
theorem dX7_placeOf_7 : decode cX7_placeOf 7 = .ok (.getfield 115, 3) := by decide +kernel
theorem dX7_placeOf_10 : decode cX7_placeOf 10 = .ok (.ifCond .eq 7, 3) := by decide +kernel
theorem dX7_placeOf_13 : decode cX7_placeOf 13 = .ok (.iconst (-1), 1) := by decide +kernel
theorem dX7_placeOf_14 : decode cX7_placeOf 14 = .ok (.goto 11, 3) := by decide +kernel
theorem dX7_placeOf_17 : decode cX7_placeOf 17 = .ok (.aload_n 0, 1) := by decide +kernel
theorem dX7_placeOf_18 : decode cX7_placeOf 18 = .ok (.getfield 18, 3) := by decide +kernel
theorem dX7_placeOf_21 : decode cX7_placeOf 21 = .ok (.aload_n 2, 1) := by decide +kernel
theorem dX7_placeOf_22 : decode cX7_placeOf 22 = .ok (.invokevirtual 144, 3) := by decide +kernel
theorem dX7_placeOf_25 : decode cX7_placeOf 25 = .ok (.ireturn, 1) := by decide +kernel
theorem dX7_partOf_0 : decode cX7_partOf 0 = .ok (.aload_n 0, 1) := by decide +kernel
theorem dX7_partOf_1 : decode cX7_partOf 1 = .ok (.iload_n 1, 1) := by decide +kernel
theorem dX7_partOf_2 : decode cX7_partOf 2 = .ok (.invokevirtual 111, 3) := by decide +kernel
theorem dX7_partOf_5 : decode cX7_partOf 5 = .ok (.astore_n 3, 1) := by decide +kernel
theorem dX7_partOf_6 : decode cX7_partOf 6 = .ok (.aload_n 0, 1) := by decide +kernel
theorem dX7_partOf_7 : decode cX7_partOf 7 = .ok (.iload_n 2, 1) := by decide +kernel
theorem dX7_partOf_8 : decode cX7_partOf 8 = .ok (.invokevirtual 111, 3) := by decide +kernel
theorem dX7_partOf_11 : decode cX7_partOf 11 = .ok (.astore 4, 2) := by decide +kernel
theorem dX7_partOf_13 : decode cX7_partOf 13 = .ok (.aload_n 3, 1) := by decide +kernel
theorem dX7_partOf_14 : decode cX7_partOf 14 = .ok (.getfield 127, 3) := by decide +kernel
theorem dX7_partOf_17 : decode cX7_partOf 17 = .ok (.iconst 3, 1) := by decide +kernel
theorem dX7_partOf_18 : decode cX7_partOf 18 = .ok (.if_icmp .eq 13, 3) := by decide +kernel
theorem dX7_partOf_21 : decode cX7_partOf 21 = .ok (.new 98, 3) := by decide +kernel
theorem dX7_partOf_24 : decode cX7_partOf 24 = .ok (.dup, 1) := by decide +kernel
theorem dX7_partOf_25 : decode cX7_partOf 25 = .ok (.ldc 147, 2) := by decide +kernel
theorem dX7_partOf_27 : decode cX7_partOf 27 = .ok (.invokespecial 102, 3) := by decide +kernel
theorem dX7_partOf_30 : decode cX7_partOf 30 = .ok (.athrow, 1) := by decide +kernel
theorem dX7_partOf_31 : decode cX7_partOf 31 = .ok (.aload_n 3, 1) := by decide +kernel
theorem dX7_partOf_32 : decode cX7_partOf 32 = .ok (.aload 4, 2) := by decide +kernel
theorem dX7_partOf_34 : decode cX7_partOf 34 = .ok (.invokevirtual 149, 3) := by decide +kernel
theorem dX7_partOf_37 : decode cX7_partOf 37 = .ok (.astore 5, 2) := by decide +kernel
theorem dX7_partOf_39 : decode cX7_partOf 39 = .ok (.aload 5, 2) := by decide +kernel
theorem dX7_partOf_41 : decode cX7_partOf 41 = .ok (.ifnonnull 7, 3) := by decide +kernel
theorem dX7_partOf_44 : decode cX7_partOf 44 = .ok (.iconst 0, 1) := by decide +kernel
theorem dX7_partOf_45 : decode cX7_partOf 45 = .ok (.goto 8, 3) := by decide +kernel
theorem dX7_partOf_48 : decode cX7_partOf 48 = .ok (.aload 5, 2) := by decide +kernel
theorem dX7_partOf_50 : decode cX7_partOf 50 = .ok (.getfield 153, 3) := by decide +kernel
theorem dX7_partOf_53 : decode cX7_partOf 53 = .ok (.ireturn, 1) := by decide +kernel
theorem dX7_costOf_0 : decode cX7_costOf 0 = .ok (.aload_n 0, 1) := by decide +kernel
theorem dX7_costOf_1 : decode cX7_costOf 1 = .ok (.iload_n 1, 1) := by decide +kernel
theorem dX7_costOf_2 : decode cX7_costOf 2 = .ok (.invokevirtual 111, 3) := by decide +kernel
theorem dX7_costOf_5 : decode cX7_costOf 5 = .ok (.astore_n 3, 1) := by decide +kernel
theorem dX7_costOf_6 : decode cX7_costOf 6 = .ok (.aload_n 3, 1) := by decide +kernel
theorem dX7_costOf_7 : decode cX7_costOf 7 = .ok (.getfield 127, 3) := by decide +kernel
theorem dX7_costOf_10 : decode cX7_costOf 10 = .ok (.iconst 1, 1) := by decide +kernel
theorem dX7_costOf_11 : decode cX7_costOf 11 = .ok (.if_icmp .ne 10, 3) := by decide +kernel
theorem dX7_costOf_14 : decode cX7_costOf 14 = .ok (.aload_n 3, 1) := by decide +kernel
theorem dX7_costOf_15 : decode cX7_costOf 15 = .ok (.getfield 115, 3) := by decide +kernel
theorem dX7_costOf_18 : decode cX7_costOf 18 = .ok (.ifCond .eq 13, 3) := by decide +kernel
theorem dX7_costOf_21 : decode cX7_costOf 21 = .ok (.new 98, 3) := by decide +kernel
theorem dX7_costOf_24 : decode cX7_costOf 24 = .ok (.dup, 1) := by decide +kernel
theorem dX7_costOf_25 : decode cX7_costOf 25 = .ok (.ldc 158, 2) := by decide +kernel
theorem dX7_costOf_27 : decode cX7_costOf 27 = .ok (.invokespecial 102, 3) := by decide +kernel
theorem dX7_costOf_30 : decode cX7_costOf 30 = .ok (.athrow, 1) := by decide +kernel
theorem dX7_costOf_31 : decode cX7_costOf 31 = .ok (.aload_n 0, 1) := by decide +kernel
theorem dX7_costOf_32 : decode cX7_costOf 32 = .ok (.aload_n 3, 1) := by decide +kernel
theorem dX7_costOf_33 : decode cX7_costOf 33 = .ok (.getfield 160, 3) := by decide +kernel
theorem dX7_costOf_36 : decode cX7_costOf 36 = .ok (.aload_n 3, 1) := by decide +kernel
theorem dX7_costOf_37 : decode cX7_costOf 37 = .ok (.getfield 121, 3) := by decide +kernel
theorem dX7_costOf_40 : decode cX7_costOf 40 = .ok (.iload_n 2, 1) := by decide +kernel
theorem dX7_costOf_41 : decode cX7_costOf 41 = .ok (.invokevirtual 163, 3) := by decide +kernel
theorem dX7_costOf_44 : decode cX7_costOf 44 = .ok (.pop, 1) := by decide +kernel
theorem dX7_costOf_45 : decode cX7_costOf 45 = .ok (.aload_n 3, 1) := by decide +kernel
theorem dX7_costOf_46 : decode cX7_costOf 46 = .ok (.getfield 167, 3) := by decide +kernel
theorem dX7_costOf_49 : decode cX7_costOf 49 = .ok (.lreturn, 1) := by decide +kernel
theorem dX7_onHand_0 : decode cX7_onHand 0 = .ok (.iload_n 1, 1) := by decide +kernel
theorem dX7_onHand_1 : decode cX7_onHand 1 = .ok (.iload_n 2, 1) := by decide +kernel
theorem dX7_onHand_2 : decode cX7_onHand 2 = .ok (.invokestatic 44, 3) := by decide +kernel
theorem dX7_onHand_5 : decode cX7_onHand 5 = .ok (.aload_n 0, 1) := by decide +kernel
theorem dX7_onHand_6 : decode cX7_onHand 6 = .ok (.getfield 18, 3) := by decide +kernel
theorem dX7_onHand_9 : decode cX7_onHand 9 = .ok (.iload_n 1, 1) := by decide +kernel
theorem dX7_onHand_10 : decode cX7_onHand 10 = .ok (.iload_n 2, 1) := by decide +kernel
theorem dX7_onHand_11 : decode cX7_onHand 11 = .ok (.invokevirtual 74, 3) := by decide +kernel
theorem dX7_onHand_14 : decode cX7_onHand 14 = .ok (.ireturn, 1) := by decide +kernel
theorem dX7_available_0 : decode cX7_available 0 = .ok (.iload_n 1, 1) := by decide +kernel
theorem dX7_available_1 : decode cX7_available 1 = .ok (.iload_n 2, 1) := by decide +kernel
theorem dX7_available_2 : decode cX7_available 2 = .ok (.invokestatic 44, 3) := by decide +kernel
theorem dX7_available_5 : decode cX7_available 5 = .ok (.aload_n 0, 1) := by decide +kernel
theorem dX7_available_6 : decode cX7_available 6 = .ok (.getfield 18, 3) := by decide +kernel
theorem dX7_available_9 : decode cX7_available 9 = .ok (.iload_n 1, 1) := by decide +kernel
theorem dX7_available_10 : decode cX7_available 10 = .ok (.iload_n 2, 1) := by decide +kernel
theorem dX7_available_11 : decode cX7_available 11 = .ok (.bipush 60, 2) := by decide +kernel
theorem dX7_available_13 : decode cX7_available 13 = .ok (.invokevirtual 67, 3) := by decide +kernel
theorem dX7_available_16 : decode cX7_available 16 = .ok (.sipush 1000, 3) := by decide +kernel
theorem dX7_available_19 : decode cX7_available 19 = .ok (.invokestatic 171, 3) := by decide +kernel
theorem dX7_available_22 : decode cX7_available 22 = .ok (.ireturn, 1) := by decide +kernel
theorem dX7_value_0 : decode cX7_value 0 = .ok (.iload_n 1, 1) := by decide +kernel
theorem dX7_value_1 : decode cX7_value 1 = .ok (.iload_n 2, 1) := by decide +kernel
theorem dX7_value_2 : decode cX7_value 2 = .ok (.invokestatic 44, 3) := by decide +kernel
theorem dX7_value_5 : decode cX7_value 5 = .ok (.aload_n 0, 1) := by decide +kernel
theorem dX7_value_6 : decode cX7_value 6 = .ok (.iload_n 1, 1) := by decide +kernel
theorem dX7_value_7 : decode cX7_value 7 = .ok (.iload_n 2, 1) := by decide +kernel
theorem dX7_value_8 : decode cX7_value 8 = .ok (.iload_n 3, 1) := by decide +kernel
theorem dX7_value_9 : decode cX7_value 9 = .ok (.invokevirtual 163, 3) := by decide +kernel
theorem dX7_value_12 : decode cX7_value 12 = .ok (.invokevirtual 176, 3) := by decide +kernel
theorem dX7_value_15 : decode cX7_value 15 = .ok (.lreturn, 1) := by decide +kernel
theorem dX7_received_0 : decode cX7_received 0 = .ok (.iload_n 1, 1) := by decide +kernel
theorem dX7_received_1 : decode cX7_received 1 = .ok (.iload_n 2, 1) := by decide +kernel
theorem dX7_received_2 : decode cX7_received 2 = .ok (.invokestatic 44, 3) := by decide +kernel
theorem dX7_received_5 : decode cX7_received 5 = .ok (.aload_n 0, 1) := by decide +kernel
theorem dX7_received_6 : decode cX7_received 6 = .ok (.iload_n 1, 1) := by decide +kernel
theorem dX7_received_7 : decode cX7_received 7 = .ok (.iload_n 2, 1) := by decide +kernel
theorem dX7_received_8 : decode cX7_received 8 = .ok (.iconst 1, 1) := by decide +kernel
theorem dX7_received_9 : decode cX7_received 9 = .ok (.invokevirtual 163, 3) := by decide +kernel
theorem dX7_received_12 : decode cX7_received 12 = .ok (.getfield 182, 3) := by decide +kernel
theorem dX7_received_15 : decode cX7_received 15 = .ok (.lreturn, 1) := by decide +kernel
theorem dX7_issued_0 : decode cX7_issued 0 = .ok (.iload_n 1, 1) := by decide +kernel
theorem dX7_issued_1 : decode cX7_issued 1 = .ok (.iload_n 2, 1) := by decide +kernel
theorem dX7_issued_2 : decode cX7_issued 2 = .ok (.invokestatic 44, 3) := by decide +kernel
theorem dX7_issued_5 : decode cX7_issued 5 = .ok (.aload_n 0, 1) := by decide +kernel
theorem dX7_issued_6 : decode cX7_issued 6 = .ok (.iload_n 1, 1) := by decide +kernel
theorem dX7_issued_7 : decode cX7_issued 7 = .ok (.iload_n 2, 1) := by decide +kernel
theorem dX7_issued_8 : decode cX7_issued 8 = .ok (.iload_n 3, 1) := by decide +kernel
theorem dX7_issued_9 : decode cX7_issued 9 = .ok (.invokevirtual 163, 3) := by decide +kernel
theorem dX7_issued_12 : decode cX7_issued 12 = .ok (.getfield 185, 3) := by decide +kernel
theorem dX7_issued_15 : decode cX7_issued 15 = .ok (.lreturn, 1) := by decide +kernel
theorem dX7_revalued_0 : decode cX7_revalued 0 = .ok (.iload_n 1, 1) := by decide +kernel
theorem dX7_revalued_1 : decode cX7_revalued 1 = .ok (.iload_n 2, 1) := by decide +kernel
theorem dX7_revalued_2 : decode cX7_revalued 2 = .ok (.invokestatic 44, 3) := by decide +kernel
theorem dX7_revalued_5 : decode cX7_revalued 5 = .ok (.aload_n 0, 1) := by decide +kernel
theorem dX7_revalued_6 : decode cX7_revalued 6 = .ok (.iload_n 1, 1) := by decide +kernel
theorem dX7_revalued_7 : decode cX7_revalued 7 = .ok (.iload_n 2, 1) := by decide +kernel
theorem dX7_revalued_8 : decode cX7_revalued 8 = .ok (.iload_n 3, 1) := by decide +kernel
theorem dX7_revalued_9 : decode cX7_revalued 9 = .ok (.invokevirtual 163, 3) := by decide +kernel
theorem dX7_revalued_12 : decode cX7_revalued 12 = .ok (.getfield 188, 3) := by decide +kernel
theorem dX7_revalued_15 : decode cX7_revalued 15 = .ok (.lreturn, 1) := by decide +kernel
theorem dX7_expensed_0 : decode cX7_expensed 0 = .ok (.iload_n 1, 1) := by decide +kernel
theorem dX7_expensed_1 : decode cX7_expensed 1 = .ok (.iload_n 2, 1) := by decide +kernel
theorem dX7_expensed_2 : decode cX7_expensed 2 = .ok (.invokestatic 44, 3) := by decide +kernel
theorem dX7_expensed_5 : decode cX7_expensed 5 = .ok (.aload_n 0, 1) := by decide +kernel
theorem dX7_expensed_6 : decode cX7_expensed 6 = .ok (.iload_n 1, 1) := by decide +kernel
theorem dX7_expensed_7 : decode cX7_expensed 7 = .ok (.iload_n 2, 1) := by decide +kernel
theorem dX7_expensed_8 : decode cX7_expensed 8 = .ok (.iload_n 3, 1) := by decide +kernel
theorem dX7_expensed_9 : decode cX7_expensed 9 = .ok (.invokevirtual 163, 3) := by decide +kernel
theorem dX7_expensed_12 : decode cX7_expensed 12 = .ok (.getfield 191, 3) := by decide +kernel
theorem dX7_expensed_15 : decode cX7_expensed 15 = .ok (.lreturn, 1) := by decide +kernel
theorem dX7_layers_0 : decode cX7_layers 0 = .ok (.iload_n 1, 1) := by decide +kernel
theorem dX7_layers_1 : decode cX7_layers 1 = .ok (.iload_n 2, 1) := by decide +kernel
theorem dX7_layers_2 : decode cX7_layers 2 = .ok (.invokestatic 44, 3) := by decide +kernel
theorem dX7_layers_5 : decode cX7_layers 5 = .ok (.aload_n 0, 1) := by decide +kernel
theorem dX7_layers_6 : decode cX7_layers 6 = .ok (.getfield 25, 3) := by decide +kernel
theorem dX7_layers_9 : decode cX7_layers 9 = .ok (.aload_n 0, 1) := by decide +kernel
theorem dX7_layers_10 : decode cX7_layers 10 = .ok (.getfield 18, 3) := by decide +kernel
theorem dX7_layers_13 : decode cX7_layers 13 = .ok (.getfield 194, 3) := by decide +kernel
theorem dX7_layers_16 : decode cX7_layers 16 = .ok (.iload_n 1, 1) := by decide +kernel
theorem dX7_layers_17 : decode cX7_layers 17 = .ok (.iload_n 2, 1) := by decide +kernel
theorem dX7_layers_18 : decode cX7_layers 18 = .ok (.invokevirtual 198, 3) := by decide +kernel
theorem dX7_layers_21 : decode cX7_layers 21 = .ok (.aload_n 0, 1) := by decide +kernel
theorem dX7_layers_22 : decode cX7_layers 22 = .ok (.getfield 25, 3) := by decide +kernel
theorem dX7_layers_25 : decode cX7_layers 25 = .ok (.invokevirtual 202, 3) := by decide +kernel
theorem dX7_layers_28 : decode cX7_layers 28 = .ok (.ireturn, 1) := by decide +kernel
theorem dX7_layerQuantity_0 : decode cX7_layerQuantity 0 = .ok (.aload_n 0, 1) := by decide +kernel
theorem dX7_layerQuantity_1 : decode cX7_layerQuantity 1 = .ok (.iload_n 1, 1) := by decide +kernel
theorem dX7_layerQuantity_2 : decode cX7_layerQuantity 2 = .ok (.iload_n 2, 1) := by decide +kernel
theorem dX7_layerQuantity_3 : decode cX7_layerQuantity 3 = .ok (.iload_n 3, 1) := by decide +kernel
theorem dX7_layerQuantity_4 : decode cX7_layerQuantity 4 = .ok (.invokevirtual 206, 3) := by decide +kernel
theorem dX7_layerQuantity_7 : decode cX7_layerQuantity 7 = .ok (.getfield 210, 3) := by decide +kernel
theorem dX7_layerQuantity_10 : decode cX7_layerQuantity 10 = .ok (.ireturn, 1) := by decide +kernel
theorem dX7_layerCost_0 : decode cX7_layerCost 0 = .ok (.aload_n 0, 1) := by decide +kernel
theorem dX7_layerCost_1 : decode cX7_layerCost 1 = .ok (.iload_n 1, 1) := by decide +kernel
theorem dX7_layerCost_2 : decode cX7_layerCost 2 = .ok (.iload_n 2, 1) := by decide +kernel
theorem dX7_layerCost_3 : decode cX7_layerCost 3 = .ok (.iload_n 3, 1) := by decide +kernel
theorem dX7_layerCost_4 : decode cX7_layerCost 4 = .ok (.invokevirtual 206, 3) := by decide +kernel
theorem dX7_layerCost_7 : decode cX7_layerCost 7 = .ok (.getfield 214, 3) := by decide +kernel
theorem dX7_layerCost_10 : decode cX7_layerCost 10 = .ok (.lreturn, 1) := by decide +kernel
theorem dX7_layerOrigin_0 : decode cX7_layerOrigin 0 = .ok (.aload_n 0, 1) := by decide +kernel
theorem dX7_layerOrigin_1 : decode cX7_layerOrigin 1 = .ok (.iload_n 1, 1) := by decide +kernel
theorem dX7_layerOrigin_2 : decode cX7_layerOrigin 2 = .ok (.iload_n 2, 1) := by decide +kernel
theorem dX7_layerOrigin_3 : decode cX7_layerOrigin 3 = .ok (.iload_n 3, 1) := by decide +kernel
theorem dX7_layerOrigin_4 : decode cX7_layerOrigin 4 = .ok (.invokevirtual 206, 3) := by decide +kernel
theorem dX7_layerOrigin_7 : decode cX7_layerOrigin 7 = .ok (.getfield 217, 3) := by decide +kernel
theorem dX7_layerOrigin_10 : decode cX7_layerOrigin 10 = .ok (.ireturn, 1) := by decide +kernel
theorem dX7_checkRange_0 : decode cX7_checkRange 0 = .ok (.iload_n 0, 1) := by decide +kernel
theorem dX7_checkRange_1 : decode cX7_checkRange 1 = .ok (.iload_n 1, 1) := by decide +kernel
theorem dX7_checkRange_2 : decode cX7_checkRange 2 = .ok (.if_icmp .lt 8, 3) := by decide +kernel
theorem dX7_checkRange_5 : decode cX7_checkRange 5 = .ok (.iload_n 0, 1) := by decide +kernel
theorem dX7_checkRange_6 : decode cX7_checkRange 6 = .ok (.iload_n 2, 1) := by decide +kernel
theorem dX7_checkRange_7 : decode cX7_checkRange 7 = .ok (.if_icmp .le 13, 3) := by decide +kernel
theorem dX7_checkRange_10 : decode cX7_checkRange 10 = .ok (.new 78, 3) := by decide +kernel
theorem dX7_checkRange_13 : decode cX7_checkRange 13 = .ok (.dup, 1) := by decide +kernel
theorem dX7_checkRange_14 : decode cX7_checkRange 14 = .ok (.ldc 220, 2) := by decide +kernel
theorem dX7_checkRange_16 : decode cX7_checkRange 16 = .ok (.invokespecial 82, 3) := by decide +kernel
theorem dX7_checkRange_19 : decode cX7_checkRange 19 = .ok (.athrow, 1) := by decide +kernel
theorem dX7_checkRange_20 : decode cX7_checkRange 20 = .ok (.return_, 1) := by decide +kernel
theorem dX7_checkItemAndDay_0 : decode cX7_checkItemAndDay 0 = .ok (.iload_n 0, 1) := by decide +kernel
theorem dX7_checkItemAndDay_1 : decode cX7_checkItemAndDay 1 = .ok (.iconst 0, 1) := by decide +kernel
theorem dX7_checkItemAndDay_2 : decode cX7_checkItemAndDay 2 = .ok (.iconst 5, 1) := by decide +kernel
theorem dX7_checkItemAndDay_3 : decode cX7_checkItemAndDay 3 = .ok (.invokestatic 48, 3) := by decide +kernel
theorem dX7_checkItemAndDay_6 : decode cX7_checkItemAndDay 6 = .ok (.iload_n 1, 1) := by decide +kernel
theorem dX7_checkItemAndDay_7 : decode cX7_checkItemAndDay 7 = .ok (.iconst 0, 1) := by decide +kernel
theorem dX7_checkItemAndDay_8 : decode cX7_checkItemAndDay 8 = .ok (.sipush 364, 3) := by decide +kernel
theorem dX7_checkItemAndDay_11 : decode cX7_checkItemAndDay 11 = .ok (.invokestatic 48, 3) := by decide +kernel
theorem dX7_checkItemAndDay_14 : decode cX7_checkItemAndDay 14 = .ok (.return_, 1) := by decide +kernel
theorem dX7_checkOpen_0 : decode cX7_checkOpen 0 = .ok (.iload_n 1, 1) := by decide +kernel
theorem dX7_checkOpen_1 : decode cX7_checkOpen 1 = .ok (.aload_n 0, 1) := by decide +kernel
theorem dX7_checkOpen_2 : decode cX7_checkOpen 2 = .ok (.getfield 40, 3) := by decide +kernel
theorem dX7_checkOpen_5 : decode cX7_checkOpen 5 = .ok (.if_icmp .gt 13, 3) := by decide +kernel
theorem dX7_checkOpen_8 : decode cX7_checkOpen 8 = .ok (.new 98, 3) := by decide +kernel
theorem dX7_checkOpen_11 : decode cX7_checkOpen 11 = .ok (.dup, 1) := by decide +kernel
theorem dX7_checkOpen_12 : decode cX7_checkOpen 12 = .ok (.ldc 222, 2) := by decide +kernel
theorem dX7_checkOpen_14 : decode cX7_checkOpen 14 = .ok (.invokespecial 102, 3) := by decide +kernel
theorem dX7_checkOpen_17 : decode cX7_checkOpen 17 = .ok (.athrow, 1) := by decide +kernel
theorem dX7_checkOpen_18 : decode cX7_checkOpen 18 = .ok (.return_, 1) := by decide +kernel
theorem dX7_checkPosting_0 : decode cX7_checkPosting 0 = .ok (.aload_n 0, 1) := by decide +kernel
theorem dX7_checkPosting_1 : decode cX7_checkPosting 1 = .ok (.iload_n 1, 1) := by decide +kernel
theorem dX7_checkPosting_2 : decode cX7_checkPosting 2 = .ok (.invokevirtual 124, 3) := by decide +kernel
theorem dX7_checkPosting_5 : decode cX7_checkPosting 5 = .ok (.aload_n 0, 1) := by decide +kernel
theorem dX7_checkPosting_6 : decode cX7_checkPosting 6 = .ok (.getfield 57, 3) := by decide +kernel
theorem dX7_checkPosting_9 : decode cX7_checkPosting 9 = .ok (.bipush 60, 2) := by decide +kernel
theorem dX7_checkPosting_11 : decode cX7_checkPosting 11 = .ok (.if_icmp .lt 13, 3) := by decide +kernel
theorem dX7_checkPosting_14 : decode cX7_checkPosting 14 = .ok (.new 98, 3) := by decide +kernel
theorem dX7_checkPosting_17 : decode cX7_checkPosting 17 = .ok (.dup, 1) := by decide +kernel
theorem dX7_checkPosting_18 : decode cX7_checkPosting 18 = .ok (.ldc 224, 2) := by decide +kernel
theorem dX7_checkPosting_20 : decode cX7_checkPosting 20 = .ok (.invokespecial 102, 3) := by decide +kernel
theorem dX7_checkPosting_23 : decode cX7_checkPosting 23 = .ok (.athrow, 1) := by decide +kernel
theorem dX7_checkPosting_24 : decode cX7_checkPosting 24 = .ok (.return_, 1) := by decide +kernel
theorem dX7_checkOnHand_0 : decode cX7_checkOnHand 0 = .ok (.iload_n 0, 1) := by decide +kernel
theorem dX7_checkOnHand_1 : decode cX7_checkOnHand 1 = .ok (.iload_n 1, 1) := by decide +kernel
theorem dX7_checkOnHand_2 : decode cX7_checkOnHand 2 = .ok (.if_icmp .le 13, 3) := by decide +kernel
theorem dX7_checkOnHand_5 : decode cX7_checkOnHand 5 = .ok (.new 98, 3) := by decide +kernel
theorem dX7_checkOnHand_8 : decode cX7_checkOnHand 8 = .ok (.dup, 1) := by decide +kernel
theorem dX7_checkOnHand_9 : decode cX7_checkOnHand 9 = .ok (.ldc 226, 2) := by decide +kernel
theorem dX7_checkOnHand_11 : decode cX7_checkOnHand 11 = .ok (.invokespecial 102, 3) := by decide +kernel
theorem dX7_checkOnHand_14 : decode cX7_checkOnHand 14 = .ok (.athrow, 1) := by decide +kernel
theorem dX7_checkOnHand_15 : decode cX7_checkOnHand 15 = .ok (.return_, 1) := by decide +kernel
theorem dX7_checkReceipts_0 : decode cX7_checkReceipts 0 = .ok (.iconst 0, 1) := by decide +kernel
theorem dX7_checkReceipts_1 : decode cX7_checkReceipts 1 = .ok (.istore 4, 2) := by decide +kernel
theorem dX7_checkReceipts_3 : decode cX7_checkReceipts 3 = .ok (.iload 4, 2) := by decide +kernel
theorem dX7_checkReceipts_5 : decode cX7_checkReceipts 5 = .ok (.bipush 60, 2) := by decide +kernel
theorem dX7_checkReceipts_7 : decode cX7_checkReceipts 7 = .ok (.if_icmp .ge 58, 3) := by decide +kernel
theorem dX7_checkReceipts_10 : decode cX7_checkReceipts 10 = .ok (.aload_n 0, 1) := by decide +kernel
theorem dX7_checkReceipts_11 : decode cX7_checkReceipts 11 = .ok (.lload_n 1, 1) := by decide +kernel
theorem dX7_checkReceipts_12 : decode cX7_checkReceipts 12 = .ok (.iload 4, 2) := by decide +kernel
theorem dX7_checkReceipts_14 : decode cX7_checkReceipts 14 = .ok (.invokevirtual 228, 3) := by decide +kernel
theorem dX7_checkReceipts_17 : decode cX7_checkReceipts 17 = .ok (.astore 5, 2) := by decide +kernel
theorem dX7_checkReceipts_19 : decode cX7_checkReceipts 19 = .ok (.aload 5, 2) := by decide +kernel
theorem dX7_checkReceipts_21 : decode cX7_checkReceipts 21 = .ok (.ifnull 38, 3) := by decide +kernel
theorem dX7_checkReceipts_24 : decode cX7_checkReceipts 24 = .ok (.aload 5, 2) := by decide +kernel
theorem dX7_checkReceipts_26 : decode cX7_checkReceipts 26 = .ok (.getfield 127, 3) := by decide +kernel
theorem dX7_checkReceipts_29 : decode cX7_checkReceipts 29 = .ok (.ifCond .ne 20, 3) := by decide +kernel
theorem dX7_checkReceipts_32 : decode cX7_checkReceipts 32 = .ok (.aload 5, 2) := by decide +kernel
theorem dX7_checkReceipts_34 : decode cX7_checkReceipts 34 = .ok (.getfield 115, 3) := by decide +kernel
theorem dX7_checkReceipts_37 : decode cX7_checkReceipts 37 = .ok (.ifCond .ne 12, 3) := by decide +kernel
theorem dX7_checkReceipts_40 : decode cX7_checkReceipts 40 = .ok (.aload 5, 2) := by decide +kernel
theorem dX7_checkReceipts_42 : decode cX7_checkReceipts 42 = .ok (.getfield 121, 3) := by decide +kernel
theorem dX7_checkReceipts_45 : decode cX7_checkReceipts 45 = .ok (.iload_n 3, 1) := by decide +kernel
theorem dX7_checkReceipts_46 : decode cX7_checkReceipts 46 = .ok (.if_icmp .le 13, 3) := by decide +kernel
theorem dX7_checkReceipts_49 : decode cX7_checkReceipts 49 = .ok (.new 98, 3) := by decide +kernel
theorem dX7_checkReceipts_52 : decode cX7_checkReceipts 52 = .ok (.dup, 1) := by decide +kernel
theorem dX7_checkReceipts_53 : decode cX7_checkReceipts 53 = .ok (.ldc 232, 2) := by decide +kernel
theorem dX7_checkReceipts_55 : decode cX7_checkReceipts 55 = .ok (.invokespecial 102, 3) := by decide +kernel
theorem dX7_checkReceipts_58 : decode cX7_checkReceipts 58 = .ok (.athrow, 1) := by decide +kernel
theorem dX7_checkReceipts_59 : decode cX7_checkReceipts 59 = .ok (.iinc 4 1, 3) := by decide +kernel
theorem dX7_checkReceipts_62 : decode cX7_checkReceipts 62 = .ok (.goto (-59), 3) := by decide +kernel
theorem dX7_checkReceipts_65 : decode cX7_checkReceipts 65 = .ok (.return_, 1) := by decide +kernel
theorem dX7_checkDispensable_0 : decode cX7_checkDispensable 0 = .ok (.aload_n 0, 1) := by decide +kernel
theorem dX7_checkDispensable_1 : decode cX7_checkDispensable 1 = .ok (.getfield 18, 3) := by decide +kernel
theorem dX7_checkDispensable_4 : decode cX7_checkDispensable 4 = .ok (.aload_n 1, 1) := by decide +kernel
theorem dX7_checkDispensable_5 : decode cX7_checkDispensable 5 = .ok (.invokevirtual 234, 3) := by decide +kernel
theorem dX7_checkDispensable_8 : decode cX7_checkDispensable 8 = .ok (.ifCond .eq 13, 3) := by decide +kernel
theorem dX7_checkDispensable_11 : decode cX7_checkDispensable 11 = .ok (.new 98, 3) := by decide +kernel
theorem dX7_checkDispensable_14 : decode cX7_checkDispensable 14 = .ok (.dup, 1) := by decide +kernel
theorem dX7_checkDispensable_15 : decode cX7_checkDispensable 15 = .ok (.ldc 238, 2) := by decide +kernel
theorem dX7_checkDispensable_17 : decode cX7_checkDispensable 17 = .ok (.invokespecial 102, 3) := by decide +kernel
theorem dX7_checkDispensable_20 : decode cX7_checkDispensable 20 = .ok (.athrow, 1) := by decide +kernel
theorem dX7_checkDispensable_21 : decode cX7_checkDispensable 21 = .ok (.aload_n 1, 1) := by decide +kernel
theorem dX7_checkDispensable_22 : decode cX7_checkDispensable 22 = .ok (.getfield 240, 3) := by decide +kernel
theorem dX7_checkDispensable_25 : decode cX7_checkDispensable 25 = .ok (.aload_n 0, 1) := by decide +kernel
theorem dX7_checkDispensable_26 : decode cX7_checkDispensable 26 = .ok (.getfield 18, 3) := by decide +kernel
theorem dX7_checkDispensable_29 : decode cX7_checkDispensable 29 = .ok (.aload_n 1, 1) := by decide +kernel
theorem dX7_checkDispensable_30 : decode cX7_checkDispensable 30 = .ok (.getfield 160, 3) := by decide +kernel
theorem dX7_checkDispensable_33 : decode cX7_checkDispensable 33 = .ok (.aload_n 1, 1) := by decide +kernel
theorem dX7_checkDispensable_34 : decode cX7_checkDispensable 34 = .ok (.getfield 121, 3) := by decide +kernel
theorem dX7_checkDispensable_37 : decode cX7_checkDispensable 37 = .ok (.aload_n 1, 1) := by decide +kernel
theorem dX7_checkDispensable_38 : decode cX7_checkDispensable 38 = .ok (.getfield 243, 3) := by decide +kernel
theorem dX7_checkDispensable_41 : decode cX7_checkDispensable 41 = .ok (.invokevirtual 67, 3) := by decide +kernel
theorem dX7_checkDispensable_44 : decode cX7_checkDispensable 44 = .ok (.invokestatic 71, 3) := by decide +kernel
theorem dX7_checkDispensable_47 : decode cX7_checkDispensable 47 = .ok (.return_, 1) := by decide +kernel
theorem dX7_find_0 : decode cX7_find 0 = .ok (.iload_n 1, 1) := by decide +kernel
theorem dX7_find_1 : decode cX7_find 1 = .ok (.ifCond .lt 21, 3) := by decide +kernel
theorem dX7_find_4 : decode cX7_find 4 = .ok (.iload_n 1, 1) := by decide +kernel
theorem dX7_find_5 : decode cX7_find 5 = .ok (.aload_n 0, 1) := by decide +kernel
theorem dX7_find_6 : decode cX7_find 6 = .ok (.getfield 11, 3) := by decide +kernel
theorem dX7_find_9 : decode cX7_find 9 = .ok (.arraylength, 1) := by decide +kernel
theorem dX7_find_10 : decode cX7_find 10 = .ok (.if_icmp .ge 12, 3) := by decide +kernel
theorem dX7_find_13 : decode cX7_find 13 = .ok (.aload_n 0, 1) := by decide +kernel
theorem dX7_find_14 : decode cX7_find 14 = .ok (.getfield 11, 3) := by decide +kernel
theorem dX7_find_17 : decode cX7_find 17 = .ok (.iload_n 1, 1) := by decide +kernel
theorem dX7_find_18 : decode cX7_find 18 = .ok (.aaload, 1) := by decide +kernel
theorem dX7_find_19 : decode cX7_find 19 = .ok (.goto 4, 3) := by decide +kernel
theorem dX7_find_22 : decode cX7_find 22 = .ok (.aconst_null, 1) := by decide +kernel
theorem dX7_find_23 : decode cX7_find 23 = .ok (.astore_n 2, 1) := by decide +kernel
theorem dX7_find_24 : decode cX7_find 24 = .ok (.aload_n 2, 1) := by decide +kernel
theorem dX7_find_25 : decode cX7_find 25 = .ok (.ifnonnull 13, 3) := by decide +kernel
theorem dX7_find_28 : decode cX7_find 28 = .ok (.new 85, 3) := by decide +kernel
theorem dX7_find_31 : decode cX7_find 31 = .ok (.dup, 1) := by decide +kernel
theorem dX7_find_32 : decode cX7_find 32 = .ok (.ldc 246, 2) := by decide +kernel
theorem dX7_find_34 : decode cX7_find 34 = .ok (.invokespecial 89, 3) := by decide +kernel
theorem dX7_find_37 : decode cX7_find 37 = .ok (.athrow, 1) := by decide +kernel
theorem dX7_find_38 : decode cX7_find 38 = .ok (.aload_n 2, 1) := by decide +kernel
theorem dX7_find_39 : decode cX7_find 39 = .ok (.areturn, 1) := by decide +kernel
theorem dX7_findLayer_0 : decode cX7_findLayer 0 = .ok (.iload_n 1, 1) := by decide +kernel
theorem dX7_findLayer_1 : decode cX7_findLayer 1 = .ok (.iload_n 2, 1) := by decide +kernel
theorem dX7_findLayer_2 : decode cX7_findLayer 2 = .ok (.invokestatic 44, 3) := by decide +kernel
theorem dX7_findLayer_5 : decode cX7_findLayer 5 = .ok (.aload_n 0, 1) := by decide +kernel
theorem dX7_findLayer_6 : decode cX7_findLayer 6 = .ok (.getfield 25, 3) := by decide +kernel
theorem dX7_findLayer_9 : decode cX7_findLayer 9 = .ok (.aload_n 0, 1) := by decide +kernel
theorem dX7_findLayer_10 : decode cX7_findLayer 10 = .ok (.getfield 18, 3) := by decide +kernel
theorem dX7_findLayer_13 : decode cX7_findLayer 13 = .ok (.getfield 194, 3) := by decide +kernel
theorem dX7_findLayer_16 : decode cX7_findLayer 16 = .ok (.iload_n 1, 1) := by decide +kernel
theorem dX7_findLayer_17 : decode cX7_findLayer 17 = .ok (.iload_n 2, 1) := by decide +kernel
theorem dX7_findLayer_18 : decode cX7_findLayer 18 = .ok (.invokevirtual 198, 3) := by decide +kernel
theorem dX7_findLayer_21 : decode cX7_findLayer 21 = .ok (.aload_n 0, 1) := by decide +kernel
theorem dX7_findLayer_22 : decode cX7_findLayer 22 = .ok (.getfield 25, 3) := by decide +kernel
theorem dX7_findLayer_25 : decode cX7_findLayer 25 = .ok (.iload_n 3, 1) := by decide +kernel
theorem dX7_findLayer_26 : decode cX7_findLayer 26 = .ok (.invokevirtual 248, 3) := by decide +kernel
theorem dX7_findLayer_29 : decode cX7_findLayer 29 = .ok (.astore 4, 2) := by decide +kernel
theorem dX7_findLayer_31 : decode cX7_findLayer 31 = .ok (.aload 4, 2) := by decide +kernel
theorem dX7_findLayer_33 : decode cX7_findLayer 33 = .ok (.ifnonnull 13, 3) := by decide +kernel
theorem dX7_findLayer_36 : decode cX7_findLayer 36 = .ok (.new 85, 3) := by decide +kernel
theorem dX7_findLayer_39 : decode cX7_findLayer 39 = .ok (.dup, 1) := by decide +kernel
theorem dX7_findLayer_40 : decode cX7_findLayer 40 = .ok (.ldc 252, 2) := by decide +kernel
theorem dX7_findLayer_42 : decode cX7_findLayer 42 = .ok (.invokespecial 89, 3) := by decide +kernel
theorem dX7_findLayer_45 : decode cX7_findLayer 45 = .ok (.athrow, 1) := by decide +kernel
theorem dX7_findLayer_46 : decode cX7_findLayer 46 = .ok (.aload 4, 2) := by decide +kernel
theorem dX7_findLayer_48 : decode cX7_findLayer 48 = .ok (.areturn, 1) := by decide +kernel
theorem dX7_post_0 : decode cX7_post 0 = .ok (.aload_n 0, 1) := by decide +kernel
theorem dX7_post_1 : decode cX7_post 1 = .ok (.getfield 57, 3) := by decide +kernel
theorem dX7_post_4 : decode cX7_post 4 = .ok (.ifCond .lt 43, 3) := by decide +kernel
theorem dX7_post_7 : decode cX7_post 7 = .ok (.aload_n 0, 1) := by decide +kernel
theorem dX7_post_8 : decode cX7_post 8 = .ok (.getfield 57, 3) := by decide +kernel
theorem dX7_post_11 : decode cX7_post 11 = .ok (.aload_n 0, 1) := by decide +kernel
theorem dX7_post_12 : decode cX7_post 12 = .ok (.getfield 11, 3) := by decide +kernel
theorem dX7_post_15 : decode cX7_post 15 = .ok (.arraylength, 1) := by decide +kernel
theorem dX7_post_16 : decode cX7_post 16 = .ok (.if_icmp .ge 31, 3) := by decide +kernel
theorem dX7_post_19 : decode cX7_post 19 = .ok (.aload_n 0, 1) := by decide +kernel
theorem dX7_post_20 : decode cX7_post 20 = .ok (.getfield 11, 3) := by decide +kernel
theorem dX7_post_23 : decode cX7_post 23 = .ok (.aload_n 0, 1) := by decide +kernel
theorem dX7_post_24 : decode cX7_post 24 = .ok (.getfield 57, 3) := by decide +kernel
theorem dX7_post_27 : decode cX7_post 27 = .ok (.aload_n 1, 1) := by decide +kernel
theorem dX7_post_28 : decode cX7_post 28 = .ok (.aastore, 1) := by decide +kernel
theorem dX7_post_29 : decode cX7_post 29 = .ok (.aload_n 0, 1) := by decide +kernel
theorem dX7_post_30 : decode cX7_post 30 = .ok (.dup, 1) := by decide +kernel
theorem dX7_post_31 : decode cX7_post 31 = .ok (.getfield 57, 3) := by decide +kernel
theorem dX7_post_34 : decode cX7_post 34 = .ok (.iconst 1, 1) := by decide +kernel
theorem dX7_post_35 : decode cX7_post 35 = .ok (.iadd, 1) := by decide +kernel
theorem dX7_post_36 : decode cX7_post 36 = .ok (.putfield 57, 3) := by decide +kernel
theorem dX7_post_39 : decode cX7_post 39 = .ok (.aload_n 0, 1) := by decide +kernel
theorem dX7_post_40 : decode cX7_post 40 = .ok (.getfield 18, 3) := by decide +kernel
theorem dX7_post_43 : decode cX7_post 43 = .ok (.aload_n 1, 1) := by decide +kernel
theorem dX7_post_44 : decode cX7_post 44 = .ok (.invokevirtual 254, 3) := by decide +kernel
theorem dX7_post_47 : decode cX7_post 47 = .ok (.aload_n 1, 1) := by decide +kernel
theorem dX7_post_48 : decode cX7_post 48 = .ok (.getfield 243, 3) := by decide +kernel
theorem dX7_post_51 : decode cX7_post 51 = .ok (.ireturn, 1) := by decide +kernel
theorem dX7_replayed_0 : decode cX7_replayed 0 = .ok (.iload_n 3, 1) := by decide +kernel
theorem dX7_replayed_1 : decode cX7_replayed 1 = .ok (.ifCond .eq 10, 3) := by decide +kernel
theorem dX7_replayed_4 : decode cX7_replayed 4 = .ok (.aload_n 0, 1) := by decide +kernel
theorem dX7_replayed_5 : decode cX7_replayed 5 = .ok (.getfield 32, 3) := by decide +kernel
theorem dX7_replayed_8 : decode cX7_replayed 8 = .ok (.goto 7, 3) := by decide +kernel
theorem dX7_replayed_11 : decode cX7_replayed 11 = .ok (.aload_n 0, 1) := by decide +kernel
theorem dX7_replayed_12 : decode cX7_replayed 12 = .ok (.getfield 25, 3) := by decide +kernel
theorem dX7_replayed_15 : decode cX7_replayed 15 = .ok (.astore 4, 2) := by decide +kernel
theorem dX7_replayed_17 : decode cX7_replayed 17 = .ok (.aload 4, 2) := by decide +kernel
theorem dX7_replayed_19 : decode cX7_replayed 19 = .ok (.aload_n 0, 1) := by decide +kernel
theorem dX7_replayed_20 : decode cX7_replayed 20 = .ok (.getfield 18, 3) := by decide +kernel
theorem dX7_replayed_23 : decode cX7_replayed 23 = .ok (.getfield 194, 3) := by decide +kernel
theorem dX7_replayed_26 : decode cX7_replayed 26 = .ok (.iload_n 1, 1) := by decide +kernel
theorem dX7_replayed_27 : decode cX7_replayed 27 = .ok (.iload_n 2, 1) := by decide +kernel
theorem dX7_replayed_28 : decode cX7_replayed 28 = .ok (.invokevirtual 257, 3) := by decide +kernel
theorem dX7_replayed_31 : decode cX7_replayed 31 = .ok (.aload 4, 2) := by decide +kernel
theorem dX7_replayed_33 : decode cX7_replayed 33 = .ok (.areturn, 1) := by decide +kernel
theorem dX7_weightOf_0 : decode cX7_weightOf 0 = .ok (.iload_n 1, 1) := by decide +kernel
theorem dX7_weightOf_1 : decode cX7_weightOf 1 = .ok (.ifCond .lt 21, 3) := by decide +kernel
theorem dX7_weightOf_4 : decode cX7_weightOf 4 = .ok (.iload_n 1, 1) := by decide +kernel
theorem dX7_weightOf_5 : decode cX7_weightOf 5 = .ok (.aload_n 0, 1) := by decide +kernel
theorem dX7_weightOf_6 : decode cX7_weightOf 6 = .ok (.getfield 36, 3) := by decide +kernel
theorem dX7_weightOf_9 : decode cX7_weightOf 9 = .ok (.arraylength, 1) := by decide +kernel
theorem dX7_weightOf_10 : decode cX7_weightOf 10 = .ok (.if_icmp .ge 12, 3) := by decide +kernel
theorem dX7_weightOf_13 : decode cX7_weightOf 13 = .ok (.aload_n 0, 1) := by decide +kernel
theorem dX7_weightOf_14 : decode cX7_weightOf 14 = .ok (.getfield 36, 3) := by decide +kernel
theorem dX7_weightOf_17 : decode cX7_weightOf 17 = .ok (.iload_n 1, 1) := by decide +kernel
theorem dX7_weightOf_18 : decode cX7_weightOf 18 = .ok (.iaload, 1) := by decide +kernel
theorem dX7_weightOf_19 : decode cX7_weightOf 19 = .ok (.goto 4, 3) := by decide +kernel
theorem dX7_weightOf_22 : decode cX7_weightOf 22 = .ok (.iconst 0, 1) := by decide +kernel
theorem dX7_weightOf_23 : decode cX7_weightOf 23 = .ok (.ireturn, 1) := by decide +kernel
theorem dX7_chosen_0 : decode cX7_chosen 0 = .ok (.iload_n 3, 1) := by decide +kernel
theorem dX7_chosen_1 : decode cX7_chosen 1 = .ok (.ifCond .lt 26, 3) := by decide +kernel
theorem dX7_chosen_4 : decode cX7_chosen 4 = .ok (.iload_n 3, 1) := by decide +kernel
theorem dX7_chosen_5 : decode cX7_chosen 5 = .ok (.aload_n 0, 1) := by decide +kernel
theorem dX7_chosen_6 : decode cX7_chosen 6 = .ok (.getfield 11, 3) := by decide +kernel
theorem dX7_chosen_9 : decode cX7_chosen 9 = .ok (.arraylength, 1) := by decide +kernel
theorem dX7_chosen_10 : decode cX7_chosen 10 = .ok (.if_icmp .ge 17, 3) := by decide +kernel
theorem dX7_chosen_13 : decode cX7_chosen 13 = .ok (.lload_n 1, 1) := by decide +kernel
theorem dX7_chosen_14 : decode cX7_chosen 14 = .ok (.iload_n 3, 1) := by decide +kernel
theorem dX7_chosen_15 : decode cX7_chosen 15 = .ok (.lushr, 1) := by decide +kernel
theorem dX7_chosen_16 : decode cX7_chosen 16 = .ok (.lconst 1, 1) := by decide +kernel
theorem dX7_chosen_17 : decode cX7_chosen 17 = .ok (.land, 1) := by decide +kernel
theorem dX7_chosen_18 : decode cX7_chosen 18 = .ok (.lconst 1, 1) := by decide +kernel
theorem dX7_chosen_19 : decode cX7_chosen 19 = .ok (.lcmp, 1) := by decide +kernel
theorem dX7_chosen_20 : decode cX7_chosen 20 = .ok (.ifCond .ne 7, 3) := by decide +kernel
theorem dX7_chosen_23 : decode cX7_chosen 23 = .ok (.iconst 1, 1) := by decide +kernel
theorem dX7_chosen_24 : decode cX7_chosen 24 = .ok (.goto 4, 3) := by decide +kernel
theorem dX7_chosen_27 : decode cX7_chosen 27 = .ok (.iconst 0, 1) := by decide +kernel
theorem dX7_chosen_28 : decode cX7_chosen 28 = .ok (.istore 4, 2) := by decide +kernel
theorem dX7_chosen_30 : decode cX7_chosen 30 = .ok (.iload 4, 2) := by decide +kernel
theorem dX7_chosen_32 : decode cX7_chosen 32 = .ok (.ifCond .eq 12, 3) := by decide +kernel
theorem dX7_chosen_35 : decode cX7_chosen 35 = .ok (.aload_n 0, 1) := by decide +kernel
theorem dX7_chosen_36 : decode cX7_chosen 36 = .ok (.getfield 11, 3) := by decide +kernel
theorem dX7_chosen_39 : decode cX7_chosen 39 = .ok (.iload_n 3, 1) := by decide +kernel
theorem dX7_chosen_40 : decode cX7_chosen 40 = .ok (.aaload, 1) := by decide +kernel
theorem dX7_chosen_41 : decode cX7_chosen 41 = .ok (.goto 4, 3) := by decide +kernel
theorem dX7_chosen_44 : decode cX7_chosen 44 = .ok (.aconst_null, 1) := by decide +kernel
theorem dX7_chosen_45 : decode cX7_chosen 45 = .ok (.areturn, 1) := by decide +kernel
theorem dX7_basisOf_0 : decode cX7_basisOf 0 = .ok (.iload_n 2, 1) := by decide +kernel
theorem dX7_basisOf_1 : decode cX7_basisOf 1 = .ok (.iconst 1, 1) := by decide +kernel
theorem dX7_basisOf_2 : decode cX7_basisOf 2 = .ok (.if_icmp .ne 9, 3) := by decide +kernel
theorem dX7_basisOf_5 : decode cX7_basisOf 5 = .ok (.aload_n 1, 1) := by decide +kernel
theorem dX7_basisOf_6 : decode cX7_basisOf 6 = .ok (.getfield 258, 3) := by decide +kernel
theorem dX7_basisOf_9 : decode cX7_basisOf 9 = .ok (.i2l, 1) := by decide +kernel
theorem dX7_basisOf_10 : decode cX7_basisOf 10 = .ok (.lreturn, 1) := by decide +kernel
theorem dX7_basisOf_11 : decode cX7_basisOf 11 = .ok (.iload_n 2, 1) := by decide +kernel
theorem dX7_basisOf_12 : decode cX7_basisOf 12 = .ok (.iconst 2, 1) := by decide +kernel
theorem dX7_basisOf_13 : decode cX7_basisOf 13 = .ok (.if_icmp .ne 20, 3) := by decide +kernel
theorem dX7_basisOf_16 : decode cX7_basisOf 16 = .ok (.aload_n 1, 1) := by decide +kernel
theorem dX7_basisOf_17 : decode cX7_basisOf 17 = .ok (.getfield 240, 3) := by decide +kernel
theorem dX7_basisOf_20 : decode cX7_basisOf 20 = .ok (.aload_n 0, 1) := by decide +kernel
theorem dX7_basisOf_21 : decode cX7_basisOf 21 = .ok (.aload_n 1, 1) := by decide +kernel
theorem dX7_basisOf_22 : decode cX7_basisOf 22 = .ok (.getfield 160, 3) := by decide +kernel
theorem dX7_basisOf_25 : decode cX7_basisOf 25 = .ok (.invokevirtual 140, 3) := by decide +kernel
theorem dX7_basisOf_28 : decode cX7_basisOf 28 = .ok (.imul, 1) := by decide +kernel
theorem dX7_basisOf_29 : decode cX7_basisOf 29 = .ok (.i2l, 1) := by decide +kernel
theorem dX7_basisOf_30 : decode cX7_basisOf 30 = .ok (.goto 8, 3) := by decide +kernel
theorem dX7_basisOf_33 : decode cX7_basisOf 33 = .ok (.aload_n 1, 1) := by decide +kernel
theorem dX7_basisOf_34 : decode cX7_basisOf 34 = .ok (.getfield 240, 3) := by decide +kernel
theorem dX7_basisOf_37 : decode cX7_basisOf 37 = .ok (.i2l, 1) := by decide +kernel
theorem dX7_basisOf_38 : decode cX7_basisOf 38 = .ok (.lreturn, 1) := by decide +kernel
theorem dX7_sumOfBasis_0 : decode cX7_sumOfBasis 0 = .ok (.lconst 0, 1) := by decide +kernel
theorem dX7_sumOfBasis_1 : decode cX7_sumOfBasis 1 = .ok (.lstore 4, 2) := by decide +kernel
theorem dX7_sumOfBasis_3 : decode cX7_sumOfBasis 3 = .ok (.iconst 0, 1) := by decide +kernel
theorem dX7_sumOfBasis_4 : decode cX7_sumOfBasis 4 = .ok (.istore 6, 2) := by decide +kernel
theorem dX7_sumOfBasis_6 : decode cX7_sumOfBasis 6 = .ok (.iload 6, 2) := by decide +kernel
theorem dX7_sumOfBasis_8 : decode cX7_sumOfBasis 8 = .ok (.bipush 60, 2) := by decide +kernel
theorem dX7_sumOfBasis_10 : decode cX7_sumOfBasis 10 = .ok (.if_icmp .ge 35, 3) := by decide +kernel
theorem dX7_sumOfBasis_13 : decode cX7_sumOfBasis 13 = .ok (.aload_n 0, 1) := by decide +kernel
theorem dX7_sumOfBasis_14 : decode cX7_sumOfBasis 14 = .ok (.lload_n 1, 1) := by decide +kernel
theorem dX7_sumOfBasis_15 : decode cX7_sumOfBasis 15 = .ok (.iload 6, 2) := by decide +kernel
theorem dX7_sumOfBasis_17 : decode cX7_sumOfBasis 17 = .ok (.invokevirtual 228, 3) := by decide +kernel
theorem dX7_sumOfBasis_20 : decode cX7_sumOfBasis 20 = .ok (.astore 7, 2) := by decide +kernel
theorem dX7_sumOfBasis_22 : decode cX7_sumOfBasis 22 = .ok (.aload 7, 2) := by decide +kernel
theorem dX7_sumOfBasis_24 : decode cX7_sumOfBasis 24 = .ok (.ifnull 15, 3) := by decide +kernel
theorem dX7_sumOfBasis_27 : decode cX7_sumOfBasis 27 = .ok (.lload 4, 2) := by decide +kernel
theorem dX7_sumOfBasis_29 : decode cX7_sumOfBasis 29 = .ok (.aload_n 0, 1) := by decide +kernel
theorem dX7_sumOfBasis_30 : decode cX7_sumOfBasis 30 = .ok (.aload 7, 2) := by decide +kernel
