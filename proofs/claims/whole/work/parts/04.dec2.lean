theorem dX7_sumOfBasis_32 : decode cX7_sumOfBasis 32 = .ok (.iload_n 3, 1) := by decide +kernel
theorem dX7_sumOfBasis_33 : decode cX7_sumOfBasis 33 = .ok (.invokevirtual 260, 3) := by decide +kernel
theorem dX7_sumOfBasis_36 : decode cX7_sumOfBasis 36 = .ok (.ladd, 1) := by decide +kernel
theorem dX7_sumOfBasis_37 : decode cX7_sumOfBasis 37 = .ok (.lstore 4, 2) := by decide +kernel
theorem dX7_sumOfBasis_39 : decode cX7_sumOfBasis 39 = .ok (.iinc 6 1, 3) := by decide +kernel
theorem dX7_sumOfBasis_42 : decode cX7_sumOfBasis 42 = .ok (.goto (-36), 3) := by decide +kernel
theorem dX7_sumOfBasis_45 : decode cX7_sumOfBasis 45 = .ok (.lload 4, 2) := by decide +kernel
theorem dX7_sumOfBasis_47 : decode cX7_sumOfBasis 47 = .ok (.lreturn, 1) := by decide +kernel
theorem dX7_spread_0 : decode cX7_spread 0 = .ok (.aconst_null, 1) := by decide +kernel
theorem dX7_spread_1 : decode cX7_spread 1 = .ok (.astore 7, 2) := by decide +kernel
theorem dX7_spread_3 : decode cX7_spread 3 = .ok (.iload_n 1, 1) := by decide +kernel
theorem dX7_spread_4 : decode cX7_spread 4 = .ok (.istore 8, 2) := by decide +kernel
theorem dX7_spread_6 : decode cX7_spread 6 = .ok (.bipush 59, 2) := by decide +kernel
theorem dX7_spread_8 : decode cX7_spread 8 = .ok (.istore 9, 2) := by decide +kernel
theorem dX7_spread_10 : decode cX7_spread 10 = .ok (.iload 9, 2) := by decide +kernel
theorem dX7_spread_12 : decode cX7_spread 12 = .ok (.ifCond .lt 76, 3) := by decide +kernel
theorem dX7_spread_15 : decode cX7_spread 15 = .ok (.aload_n 0, 1) := by decide +kernel
theorem dX7_spread_16 : decode cX7_spread 16 = .ok (.lload_n 3, 1) := by decide +kernel
theorem dX7_spread_17 : decode cX7_spread 17 = .ok (.iload 9, 2) := by decide +kernel
theorem dX7_spread_19 : decode cX7_spread 19 = .ok (.invokevirtual 228, 3) := by decide +kernel
theorem dX7_spread_22 : decode cX7_spread 22 = .ok (.astore 10, 2) := by decide +kernel
theorem dX7_spread_24 : decode cX7_spread 24 = .ok (.aload 10, 2) := by decide +kernel
theorem dX7_spread_26 : decode cX7_spread 26 = .ok (.ifnull 56, 3) := by decide +kernel
theorem dX7_spread_29 : decode cX7_spread 29 = .ok (.lload 5, 2) := by decide +kernel
theorem dX7_spread_31 : decode cX7_spread 31 = .ok (.lconst 0, 1) := by decide +kernel
theorem dX7_spread_32 : decode cX7_spread 32 = .ok (.lcmp, 1) := by decide +kernel
theorem dX7_spread_33 : decode cX7_spread 33 = .ok (.ifCond .le 49, 3) := by decide +kernel
theorem dX7_spread_36 : decode cX7_spread 36 = .ok (.iload_n 1, 1) := by decide +kernel
theorem dX7_spread_37 : decode cX7_spread 37 = .ok (.i2l, 1) := by decide +kernel
theorem dX7_spread_38 : decode cX7_spread 38 = .ok (.aload_n 0, 1) := by decide +kernel
theorem dX7_spread_39 : decode cX7_spread 39 = .ok (.aload 10, 2) := by decide +kernel
theorem dX7_spread_41 : decode cX7_spread 41 = .ok (.iload_n 2, 1) := by decide +kernel
theorem dX7_spread_42 : decode cX7_spread 42 = .ok (.invokevirtual 260, 3) := by decide +kernel
theorem dX7_spread_45 : decode cX7_spread 45 = .ok (.lmul, 1) := by decide +kernel
theorem dX7_spread_46 : decode cX7_spread 46 = .ok (.lstore 11, 2) := by decide +kernel
theorem dX7_spread_48 : decode cX7_spread 48 = .ok (.new 154, 3) := by decide +kernel
theorem dX7_spread_51 : decode cX7_spread 51 = .ok (.dup, 1) := by decide +kernel
theorem dX7_spread_52 : decode cX7_spread 52 = .ok (.aload 10, 2) := by decide +kernel
theorem dX7_spread_54 : decode cX7_spread 54 = .ok (.lload 11, 2) := by decide +kernel
theorem dX7_spread_56 : decode cX7_spread 56 = .ok (.lload 5, 2) := by decide +kernel
theorem dX7_spread_58 : decode cX7_spread 58 = .ok (.ldiv, 1) := by decide +kernel
theorem dX7_spread_59 : decode cX7_spread 59 = .ok (.l2i, 1) := by decide +kernel
theorem dX7_spread_60 : decode cX7_spread 60 = .ok (.lload 11, 2) := by decide +kernel
theorem dX7_spread_62 : decode cX7_spread 62 = .ok (.lload 5, 2) := by decide +kernel
theorem dX7_spread_64 : decode cX7_spread 64 = .ok (.lrem, 1) := by decide +kernel
theorem dX7_spread_65 : decode cX7_spread 65 = .ok (.aload 7, 2) := by decide +kernel
theorem dX7_spread_67 : decode cX7_spread 67 = .ok (.invokespecial 264, 3) := by decide +kernel
theorem dX7_spread_70 : decode cX7_spread 70 = .ok (.astore 7, 2) := by decide +kernel
theorem dX7_spread_72 : decode cX7_spread 72 = .ok (.iload 8, 2) := by decide +kernel
theorem dX7_spread_74 : decode cX7_spread 74 = .ok (.aload 7, 2) := by decide +kernel
theorem dX7_spread_76 : decode cX7_spread 76 = .ok (.getfield 153, 3) := by decide +kernel
theorem dX7_spread_79 : decode cX7_spread 79 = .ok (.isub, 1) := by decide +kernel
theorem dX7_spread_80 : decode cX7_spread 80 = .ok (.istore 8, 2) := by decide +kernel
theorem dX7_spread_82 : decode cX7_spread 82 = .ok (.iinc 9 (-1), 3) := by decide +kernel
theorem dX7_spread_85 : decode cX7_spread 85 = .ok (.goto (-75), 3) := by decide +kernel
theorem dX7_spread_88 : decode cX7_spread 88 = .ok (.iconst 0, 1) := by decide +kernel
theorem dX7_spread_89 : decode cX7_spread 89 = .ok (.istore 9, 2) := by decide +kernel
theorem dX7_spread_91 : decode cX7_spread 91 = .ok (.iload 9, 2) := by decide +kernel
theorem dX7_spread_93 : decode cX7_spread 93 = .ok (.iload 8, 2) := by decide +kernel
theorem dX7_spread_95 : decode cX7_spread 95 = .ok (.if_icmp .ge 14, 3) := by decide +kernel
theorem dX7_spread_98 : decode cX7_spread 98 = .ok (.aload 7, 2) := by decide +kernel
theorem dX7_spread_100 : decode cX7_spread 100 = .ok (.invokestatic 267, 3) := by decide +kernel
theorem dX7_spread_103 : decode cX7_spread 103 = .ok (.iinc 9 1, 3) := by decide +kernel
theorem dX7_spread_106 : decode cX7_spread 106 = .ok (.goto (-15), 3) := by decide +kernel
theorem dX7_spread_109 : decode cX7_spread 109 = .ok (.aload 7, 2) := by decide +kernel
theorem dX7_spread_111 : decode cX7_spread 111 = .ok (.areturn, 1) := by decide +kernel
theorem dX7_giveCent_0 : decode cX7_giveCent 0 = .ok (.aload_n 0, 1) := by decide +kernel
theorem dX7_giveCent_1 : decode cX7_giveCent 1 = .ok (.astore_n 1, 1) := by decide +kernel
theorem dX7_giveCent_2 : decode cX7_giveCent 2 = .ok (.aload_n 0, 1) := by decide +kernel
theorem dX7_giveCent_3 : decode cX7_giveCent 3 = .ok (.astore_n 2, 1) := by decide +kernel
theorem dX7_giveCent_4 : decode cX7_giveCent 4 = .ok (.aload_n 2, 1) := by decide +kernel
theorem dX7_giveCent_5 : decode cX7_giveCent 5 = .ok (.ifnull 29, 3) := by decide +kernel
theorem dX7_giveCent_8 : decode cX7_giveCent 8 = .ok (.aload_n 1, 1) := by decide +kernel
theorem dX7_giveCent_9 : decode cX7_giveCent 9 = .ok (.ifnull 17, 3) := by decide +kernel
theorem dX7_giveCent_12 : decode cX7_giveCent 12 = .ok (.aload_n 2, 1) := by decide +kernel
theorem dX7_giveCent_13 : decode cX7_giveCent 13 = .ok (.getfield 271, 3) := by decide +kernel
theorem dX7_giveCent_16 : decode cX7_giveCent 16 = .ok (.aload_n 1, 1) := by decide +kernel
theorem dX7_giveCent_17 : decode cX7_giveCent 17 = .ok (.getfield 271, 3) := by decide +kernel
theorem dX7_giveCent_20 : decode cX7_giveCent 20 = .ok (.lcmp, 1) := by decide +kernel
theorem dX7_giveCent_21 : decode cX7_giveCent 21 = .ok (.ifCond .le 5, 3) := by decide +kernel
theorem dX7_giveCent_24 : decode cX7_giveCent 24 = .ok (.aload_n 2, 1) := by decide +kernel
theorem dX7_giveCent_25 : decode cX7_giveCent 25 = .ok (.astore_n 1, 1) := by decide +kernel
theorem dX7_giveCent_26 : decode cX7_giveCent 26 = .ok (.aload_n 2, 1) := by decide +kernel
theorem dX7_giveCent_27 : decode cX7_giveCent 27 = .ok (.getfield 274, 3) := by decide +kernel
theorem dX7_giveCent_30 : decode cX7_giveCent 30 = .ok (.astore_n 2, 1) := by decide +kernel
theorem dX7_giveCent_31 : decode cX7_giveCent 31 = .ok (.goto (-27), 3) := by decide +kernel
theorem dX7_giveCent_34 : decode cX7_giveCent 34 = .ok (.aload_n 1, 1) := by decide +kernel
theorem dX7_giveCent_35 : decode cX7_giveCent 35 = .ok (.ifnull 20, 3) := by decide +kernel
theorem dX7_giveCent_38 : decode cX7_giveCent 38 = .ok (.aload_n 1, 1) := by decide +kernel
theorem dX7_giveCent_39 : decode cX7_giveCent 39 = .ok (.dup, 1) := by decide +kernel
theorem dX7_giveCent_40 : decode cX7_giveCent 40 = .ok (.getfield 153, 3) := by decide +kernel
theorem dX7_giveCent_43 : decode cX7_giveCent 43 = .ok (.iconst 1, 1) := by decide +kernel
theorem dX7_giveCent_44 : decode cX7_giveCent 44 = .ok (.iadd, 1) := by decide +kernel
theorem dX7_giveCent_45 : decode cX7_giveCent 45 = .ok (.putfield 153, 3) := by decide +kernel
theorem dX7_giveCent_48 : decode cX7_giveCent 48 = .ok (.aload_n 1, 1) := by decide +kernel
theorem dX7_giveCent_49 : decode cX7_giveCent 49 = .ok (.ldc2_w 277, 3) := by decide +kernel
theorem dX7_giveCent_52 : decode cX7_giveCent 52 = .ok (.putfield 271, 3) := by decide +kernel
theorem dX7_giveCent_55 : decode cX7_giveCent 55 = .ok (.return_, 1) := by decide +kernel
theorem dX8_init_0 : decode cX8_init 0 = .ok (.aload_n 0, 1) := by decide +kernel
theorem dX8_init_1 : decode cX8_init 1 = .ok (.invokespecial 1, 3) := by decide +kernel
theorem dX8_init_4 : decode cX8_init 4 = .ok (.aload_n 0, 1) := by decide +kernel
theorem dX8_init_5 : decode cX8_init 5 = .ok (.bipush 60, 2) := by decide +kernel
theorem dX8_init_7 : decode cX8_init 7 = .ok (.newarray .int, 2) := by decide +kernel
theorem dX8_init_9 : decode cX8_init 9 = .ok (.putfield 7, 3) := by decide +kernel
theorem dX8_init_12 : decode cX8_init 12 = .ok (.aload_n 0, 1) := by decide +kernel
theorem dX8_init_13 : decode cX8_init 13 = .ok (.bipush 60, 2) := by decide +kernel
theorem dX8_init_15 : decode cX8_init 15 = .ok (.newarray .int, 2) := by decide +kernel
theorem dX8_init_17 : decode cX8_init 17 = .ok (.putfield 13, 3) := by decide +kernel
theorem dX8_init_20 : decode cX8_init 20 = .ok (.aload_n 0, 1) := by decide +kernel
theorem dX8_init_21 : decode cX8_init 21 = .ok (.bipush 60, 2) := by decide +kernel
theorem dX8_init_23 : decode cX8_init 23 = .ok (.newarray .int, 2) := by decide +kernel
theorem dX8_init_25 : decode cX8_init 25 = .ok (.putfield 16, 3) := by decide +kernel
theorem dX8_init_28 : decode cX8_init 28 = .ok (.aload_n 0, 1) := by decide +kernel
theorem dX8_init_29 : decode cX8_init 29 = .ok (.bipush 60, 2) := by decide +kernel
theorem dX8_init_31 : decode cX8_init 31 = .ok (.newarray .int, 2) := by decide +kernel
theorem dX8_init_33 : decode cX8_init 33 = .ok (.putfield 19, 3) := by decide +kernel
theorem dX8_init_36 : decode cX8_init 36 = .ok (.aload_n 0, 1) := by decide +kernel
theorem dX8_init_37 : decode cX8_init 37 = .ok (.bipush 60, 2) := by decide +kernel
theorem dX8_init_39 : decode cX8_init 39 = .ok (.newarray .int, 2) := by decide +kernel
theorem dX8_init_41 : decode cX8_init 41 = .ok (.putfield 22, 3) := by decide +kernel
theorem dX8_init_44 : decode cX8_init 44 = .ok (.aload_n 0, 1) := by decide +kernel
theorem dX8_init_45 : decode cX8_init 45 = .ok (.bipush 60, 2) := by decide +kernel
theorem dX8_init_47 : decode cX8_init 47 = .ok (.newarray .boolean, 2) := by decide +kernel
theorem dX8_init_49 : decode cX8_init 49 = .ok (.putfield 25, 3) := by decide +kernel
theorem dX8_init_52 : decode cX8_init 52 = .ok (.aload_n 0, 1) := by decide +kernel
theorem dX8_init_53 : decode cX8_init 53 = .ok (.bipush 60, 2) := by decide +kernel
theorem dX8_init_55 : decode cX8_init 55 = .ok (.newarray .long, 2) := by decide +kernel
theorem dX8_init_57 : decode cX8_init 57 = .ok (.putfield 29, 3) := by decide +kernel
theorem dX8_init_60 : decode cX8_init 60 = .ok (.aload_n 0, 1) := by decide +kernel
theorem dX8_init_61 : decode cX8_init 61 = .ok (.sipush 3600, 3) := by decide +kernel
theorem dX8_init_64 : decode cX8_init 64 = .ok (.newarray .int, 2) := by decide +kernel
theorem dX8_init_66 : decode cX8_init 66 = .ok (.putfield 33, 3) := by decide +kernel
theorem dX8_init_69 : decode cX8_init 69 = .ok (.aload_n 0, 1) := by decide +kernel
theorem dX8_init_70 : decode cX8_init 70 = .ok (.iconst (-1), 1) := by decide +kernel
theorem dX8_init_71 : decode cX8_init 71 = .ok (.putfield 36, 3) := by decide +kernel
theorem dX8_init_74 : decode cX8_init 74 = .ok (.aload_n 0, 1) := by decide +kernel
theorem dX8_init_75 : decode cX8_init 75 = .ok (.bipush 6, 2) := by decide +kernel
theorem dX8_init_77 : decode cX8_init 77 = .ok (.newarray .int, 2) := by decide +kernel
theorem dX8_init_79 : decode cX8_init 79 = .ok (.putfield 40, 3) := by decide +kernel
theorem dX8_init_82 : decode cX8_init 82 = .ok (.aload_n 0, 1) := by decide +kernel
theorem dX8_init_83 : decode cX8_init 83 = .ok (.bipush 60, 2) := by decide +kernel
theorem dX8_init_85 : decode cX8_init 85 = .ok (.newarray .int, 2) := by decide +kernel
theorem dX8_init_87 : decode cX8_init 87 = .ok (.putfield 43, 3) := by decide +kernel
theorem dX8_init_90 : decode cX8_init 90 = .ok (.aload_n 0, 1) := by decide +kernel
theorem dX8_init_91 : decode cX8_init 91 = .ok (.iconst 2, 1) := by decide +kernel
theorem dX8_init_92 : decode cX8_init 92 = .ok (.newarray .long, 2) := by decide +kernel
theorem dX8_init_94 : decode cX8_init 94 = .ok (.putfield 46, 3) := by decide +kernel
theorem dX8_init_97 : decode cX8_init 97 = .ok (.aload_n 0, 1) := by decide +kernel
theorem dX8_init_98 : decode cX8_init 98 = .ok (.iconst 2, 1) := by decide +kernel
theorem dX8_init_99 : decode cX8_init 99 = .ok (.newarray .long, 2) := by decide +kernel
theorem dX8_init_101 : decode cX8_init 101 = .ok (.putfield 49, 3) := by decide +kernel
theorem dX8_init_104 : decode cX8_init 104 = .ok (.aload_n 0, 1) := by decide +kernel
theorem dX8_init_105 : decode cX8_init 105 = .ok (.iconst 2, 1) := by decide +kernel
theorem dX8_init_106 : decode cX8_init 106 = .ok (.newarray .long, 2) := by decide +kernel
theorem dX8_init_108 : decode cX8_init 108 = .ok (.putfield 52, 3) := by decide +kernel
theorem dX8_init_111 : decode cX8_init 111 = .ok (.aload_n 0, 1) := by decide +kernel
theorem dX8_init_112 : decode cX8_init 112 = .ok (.bipush 120, 2) := by decide +kernel
theorem dX8_init_114 : decode cX8_init 114 = .ok (.newarray .long, 2) := by decide +kernel
theorem dX8_init_116 : decode cX8_init 116 = .ok (.putfield 55, 3) := by decide +kernel
theorem dX8_init_119 : decode cX8_init 119 = .ok (.aload_n 0, 1) := by decide +kernel
theorem dX8_init_120 : decode cX8_init 120 = .ok (.bipush 60, 2) := by decide +kernel
theorem dX8_init_122 : decode cX8_init 122 = .ok (.newarray .int, 2) := by decide +kernel
theorem dX8_init_124 : decode cX8_init 124 = .ok (.putfield 58, 3) := by decide +kernel
theorem dX8_init_127 : decode cX8_init 127 = .ok (.aload_n 0, 1) := by decide +kernel
theorem dX8_init_128 : decode cX8_init 128 = .ok (.bipush 60, 2) := by decide +kernel
theorem dX8_init_130 : decode cX8_init 130 = .ok (.newarray .long, 2) := by decide +kernel
theorem dX8_init_132 : decode cX8_init 132 = .ok (.putfield 61, 3) := by decide +kernel
theorem dX8_init_135 : decode cX8_init 135 = .ok (.aload_n 0, 1) := by decide +kernel
theorem dX8_init_136 : decode cX8_init 136 = .ok (.bipush 60, 2) := by decide +kernel
theorem dX8_init_138 : decode cX8_init 138 = .ok (.newarray .int, 2) := by decide +kernel
theorem dX8_init_140 : decode cX8_init 140 = .ok (.putfield 64, 3) := by decide +kernel
theorem dX8_init_143 : decode cX8_init 143 = .ok (.aload_n 0, 1) := by decide +kernel
theorem dX8_init_144 : decode cX8_init 144 = .ok (.bipush 60, 2) := by decide +kernel
theorem dX8_init_146 : decode cX8_init 146 = .ok (.newarray .long, 2) := by decide +kernel
theorem dX8_init_148 : decode cX8_init 148 = .ok (.putfield 67, 3) := by decide +kernel
theorem dX8_init_151 : decode cX8_init 151 = .ok (.iconst 0, 1) := by decide +kernel
theorem dX8_init_152 : decode cX8_init 152 = .ok (.istore_n 1, 1) := by decide +kernel
theorem dX8_init_153 : decode cX8_init 153 = .ok (.iload_n 1, 1) := by decide +kernel
theorem dX8_init_154 : decode cX8_init 154 = .ok (.bipush 6, 2) := by decide +kernel
theorem dX8_init_156 : decode cX8_init 156 = .ok (.if_icmp .ge 16, 3) := by decide +kernel
theorem dX8_init_159 : decode cX8_init 159 = .ok (.aload_n 0, 1) := by decide +kernel
theorem dX8_init_160 : decode cX8_init 160 = .ok (.getfield 40, 3) := by decide +kernel
theorem dX8_init_163 : decode cX8_init 163 = .ok (.iload_n 1, 1) := by decide +kernel
theorem dX8_init_164 : decode cX8_init 164 = .ok (.iconst 1, 1) := by decide +kernel
theorem dX8_init_165 : decode cX8_init 165 = .ok (.iastore, 1) := by decide +kernel
theorem dX8_init_166 : decode cX8_init 166 = .ok (.iinc 1 1, 3) := by decide +kernel
theorem dX8_init_169 : decode cX8_init 169 = .ok (.goto (-16), 3) := by decide +kernel
theorem dX8_init_172 : decode cX8_init 172 = .ok (.return_, 1) := by decide +kernel
theorem dX8_thrown_0 : decode cX8_thrown 0 = .ok (.aload_n 0, 1) := by decide +kernel
theorem dX8_thrown_1 : decode cX8_thrown 1 = .ok (.getfield 70, 3) := by decide +kernel
theorem dX8_thrown_4 : decode cX8_thrown 4 = .ok (.ireturn, 1) := by decide +kernel
theorem dX8_goes_0 : decode cX8_goes 0 = .ok (.aload_n 0, 1) := by decide +kernel
theorem dX8_goes_1 : decode cX8_goes 1 = .ok (.iload_n 1, 1) := by decide +kernel
theorem dX8_goes_2 : decode cX8_goes 2 = .ok (.putfield 70, 3) := by decide +kernel
theorem dX8_goes_5 : decode cX8_goes 5 = .ok (.iload_n 1, 1) := by decide +kernel
theorem dX8_goes_6 : decode cX8_goes 6 = .ok (.ifCond .ne 7, 3) := by decide +kernel
theorem dX8_goes_9 : decode cX8_goes 9 = .ok (.iconst 1, 1) := by decide +kernel
theorem dX8_goes_10 : decode cX8_goes 10 = .ok (.goto 4, 3) := by decide +kernel
theorem dX8_goes_13 : decode cX8_goes 13 = .ok (.iconst 0, 1) := by decide +kernel
theorem dX8_goes_14 : decode cX8_goes 14 = .ok (.ireturn, 1) := by decide +kernel
theorem dX8_isIn_0 : decode cX8_isIn 0 = .ok (.iload_n 0, 1) := by decide +kernel
theorem dX8_isIn_1 : decode cX8_isIn 1 = .ok (.iload_n 1, 1) := by decide +kernel
theorem dX8_isIn_2 : decode cX8_isIn 2 = .ok (.if_icmp .lt 12, 3) := by decide +kernel
theorem dX8_isIn_5 : decode cX8_isIn 5 = .ok (.iload_n 0, 1) := by decide +kernel
theorem dX8_isIn_6 : decode cX8_isIn 6 = .ok (.iload_n 2, 1) := by decide +kernel
theorem dX8_isIn_7 : decode cX8_isIn 7 = .ok (.if_icmp .gt 7, 3) := by decide +kernel
theorem dX8_isIn_10 : decode cX8_isIn 10 = .ok (.iconst 1, 1) := by decide +kernel
theorem dX8_isIn_11 : decode cX8_isIn 11 = .ok (.goto 4, 3) := by decide +kernel
theorem dX8_isIn_14 : decode cX8_isIn 14 = .ok (.iconst 0, 1) := by decide +kernel
theorem dX8_isIn_15 : decode cX8_isIn 15 = .ok (.ireturn, 1) := by decide +kernel
theorem dX8_isDay_0 : decode cX8_isDay 0 = .ok (.iload_n 0, 1) := by decide +kernel
theorem dX8_isDay_1 : decode cX8_isDay 1 = .ok (.iconst 0, 1) := by decide +kernel
theorem dX8_isDay_2 : decode cX8_isDay 2 = .ok (.sipush 364, 3) := by decide +kernel
theorem dX8_isDay_5 : decode cX8_isDay 5 = .ok (.invokestatic 73, 3) := by decide +kernel
theorem dX8_isDay_8 : decode cX8_isDay 8 = .ok (.ireturn, 1) := by decide +kernel
theorem dX8_isItem_0 : decode cX8_isItem 0 = .ok (.iload_n 0, 1) := by decide +kernel
theorem dX8_isItem_1 : decode cX8_isItem 1 = .ok (.iconst 0, 1) := by decide +kernel
theorem dX8_isItem_2 : decode cX8_isItem 2 = .ok (.iconst 5, 1) := by decide +kernel
theorem dX8_isItem_3 : decode cX8_isItem 3 = .ok (.invokestatic 73, 3) := by decide +kernel
theorem dX8_isItem_6 : decode cX8_isItem 6 = .ok (.ireturn, 1) := by decide +kernel
theorem dX8_isMovement_0 : decode cX8_isMovement 0 = .ok (.iload_n 1, 1) := by decide +kernel
theorem dX8_isMovement_1 : decode cX8_isMovement 1 = .ok (.iconst 0, 1) := by decide +kernel
theorem dX8_isMovement_2 : decode cX8_isMovement 2 = .ok (.aload_n 0, 1) := by decide +kernel
theorem dX8_isMovement_3 : decode cX8_isMovement 3 = .ok (.getfield 77, 3) := by decide +kernel
theorem dX8_isMovement_6 : decode cX8_isMovement 6 = .ok (.iconst 1, 1) := by decide +kernel
theorem dX8_isMovement_7 : decode cX8_isMovement 7 = .ok (.isub, 1) := by decide +kernel
theorem dX8_isMovement_8 : decode cX8_isMovement 8 = .ok (.invokestatic 73, 3) := by decide +kernel
theorem dX8_isMovement_11 : decode cX8_isMovement 11 = .ok (.ireturn, 1) := by decide +kernel
theorem dX8_isShut_0 : decode cX8_isShut 0 = .ok (.iload_n 1, 1) := by decide +kernel
theorem dX8_isShut_1 : decode cX8_isShut 1 = .ok (.aload_n 0, 1) := by decide +kernel
theorem dX8_isShut_2 : decode cX8_isShut 2 = .ok (.getfield 36, 3) := by decide +kernel
theorem dX8_isShut_5 : decode cX8_isShut 5 = .ok (.if_icmp .le 12, 3) := by decide +kernel
theorem dX8_isShut_8 : decode cX8_isShut 8 = .ok (.aload_n 0, 1) := by decide +kernel
theorem dX8_isShut_9 : decode cX8_isShut 9 = .ok (.getfield 77, 3) := by decide +kernel
theorem dX8_isShut_12 : decode cX8_isShut 12 = .ok (.bipush 60, 2) := by decide +kernel
theorem dX8_isShut_14 : decode cX8_isShut 14 = .ok (.if_icmp .ne 7, 3) := by decide +kernel
theorem dX8_isShut_17 : decode cX8_isShut 17 = .ok (.iconst 1, 1) := by decide +kernel
theorem dX8_isShut_18 : decode cX8_isShut 18 = .ok (.goto 4, 3) := by decide +kernel
theorem dX8_isShut_21 : decode cX8_isShut 21 = .ok (.iconst 0, 1) := by decide +kernel
theorem dX8_isShut_22 : decode cX8_isShut 22 = .ok (.ireturn, 1) := by decide +kernel
theorem dX8_orders_0 : decode cX8_orders 0 = .ok (.aload_n 0, 1) := by decide +kernel
theorem dX8_orders_1 : decode cX8_orders 1 = .ok (.iconst 0, 1) := by decide +kernel
theorem dX8_orders_2 : decode cX8_orders 2 = .ok (.putfield 80, 3) := by decide +kernel
theorem dX8_orders_5 : decode cX8_orders 5 = .ok (.iconst 0, 1) := by decide +kernel
theorem dX8_orders_6 : decode cX8_orders 6 = .ok (.istore_n 1, 1) := by decide +kernel
theorem dX8_orders_7 : decode cX8_orders 7 = .ok (.iload_n 1, 1) := by decide +kernel
theorem dX8_orders_8 : decode cX8_orders 8 = .ok (.aload_n 0, 1) := by decide +kernel
theorem dX8_orders_9 : decode cX8_orders 9 = .ok (.getfield 77, 3) := by decide +kernel
theorem dX8_orders_12 : decode cX8_orders 12 = .ok (.if_icmp .ge 86, 3) := by decide +kernel
theorem dX8_orders_15 : decode cX8_orders 15 = .ok (.aload_n 0, 1) := by decide +kernel
theorem dX8_orders_16 : decode cX8_orders 16 = .ok (.getfield 25, 3) := by decide +kernel
theorem dX8_orders_19 : decode cX8_orders 19 = .ok (.iload_n 1, 1) := by decide +kernel
theorem dX8_orders_20 : decode cX8_orders 20 = .ok (.baload, 1) := by decide +kernel
theorem dX8_orders_21 : decode cX8_orders 21 = .ok (.ifCond .ne 71, 3) := by decide +kernel
theorem dX8_orders_24 : decode cX8_orders 24 = .ok (.aload_n 0, 1) := by decide +kernel
theorem dX8_orders_25 : decode cX8_orders 25 = .ok (.getfield 80, 3) := by decide +kernel
theorem dX8_orders_28 : decode cX8_orders 28 = .ok (.istore_n 2, 1) := by decide +kernel
theorem dX8_orders_29 : decode cX8_orders 29 = .ok (.iload_n 2, 1) := by decide +kernel
theorem dX8_orders_30 : decode cX8_orders 30 = .ok (.ifCond .le 45, 3) := by decide +kernel
theorem dX8_orders_33 : decode cX8_orders 33 = .ok (.aload_n 0, 1) := by decide +kernel
theorem dX8_orders_34 : decode cX8_orders 34 = .ok (.getfield 13, 3) := by decide +kernel
theorem dX8_orders_37 : decode cX8_orders 37 = .ok (.aload_n 0, 1) := by decide +kernel
theorem dX8_orders_38 : decode cX8_orders 38 = .ok (.getfield 43, 3) := by decide +kernel
theorem dX8_orders_41 : decode cX8_orders 41 = .ok (.iload_n 2, 1) := by decide +kernel
theorem dX8_orders_42 : decode cX8_orders 42 = .ok (.iconst 1, 1) := by decide +kernel
theorem dX8_orders_43 : decode cX8_orders 43 = .ok (.isub, 1) := by decide +kernel
theorem dX8_orders_44 : decode cX8_orders 44 = .ok (.iaload, 1) := by decide +kernel
theorem dX8_orders_45 : decode cX8_orders 45 = .ok (.iaload, 1) := by decide +kernel
theorem dX8_orders_46 : decode cX8_orders 46 = .ok (.aload_n 0, 1) := by decide +kernel
theorem dX8_orders_47 : decode cX8_orders 47 = .ok (.getfield 13, 3) := by decide +kernel
theorem dX8_orders_50 : decode cX8_orders 50 = .ok (.iload_n 1, 1) := by decide +kernel
theorem dX8_orders_51 : decode cX8_orders 51 = .ok (.iaload, 1) := by decide +kernel
theorem dX8_orders_52 : decode cX8_orders 52 = .ok (.if_icmp .le 23, 3) := by decide +kernel
theorem dX8_orders_55 : decode cX8_orders 55 = .ok (.aload_n 0, 1) := by decide +kernel
theorem dX8_orders_56 : decode cX8_orders 56 = .ok (.getfield 43, 3) := by decide +kernel
theorem dX8_orders_59 : decode cX8_orders 59 = .ok (.iload_n 2, 1) := by decide +kernel
theorem dX8_orders_60 : decode cX8_orders 60 = .ok (.aload_n 0, 1) := by decide +kernel
theorem dX8_orders_61 : decode cX8_orders 61 = .ok (.getfield 43, 3) := by decide +kernel
theorem dX8_orders_64 : decode cX8_orders 64 = .ok (.iload_n 2, 1) := by decide +kernel
theorem dX8_orders_65 : decode cX8_orders 65 = .ok (.iconst 1, 1) := by decide +kernel
theorem dX8_orders_66 : decode cX8_orders 66 = .ok (.isub, 1) := by decide +kernel
theorem dX8_orders_67 : decode cX8_orders 67 = .ok (.iaload, 1) := by decide +kernel
theorem dX8_orders_68 : decode cX8_orders 68 = .ok (.iastore, 1) := by decide +kernel
theorem dX8_orders_69 : decode cX8_orders 69 = .ok (.iinc 2 (-1), 3) := by decide +kernel
theorem dX8_orders_72 : decode cX8_orders 72 = .ok (.goto (-43), 3) := by decide +kernel
theorem dX8_orders_75 : decode cX8_orders 75 = .ok (.aload_n 0, 1) := by decide +kernel
theorem dX8_orders_76 : decode cX8_orders 76 = .ok (.getfield 43, 3) := by decide +kernel
theorem dX8_orders_79 : decode cX8_orders 79 = .ok (.iload_n 2, 1) := by decide +kernel
theorem dX8_orders_80 : decode cX8_orders 80 = .ok (.iload_n 1, 1) := by decide +kernel
theorem dX8_orders_81 : decode cX8_orders 81 = .ok (.iastore, 1) := by decide +kernel
theorem dX8_orders_82 : decode cX8_orders 82 = .ok (.aload_n 0, 1) := by decide +kernel
theorem dX8_orders_83 : decode cX8_orders 83 = .ok (.dup, 1) := by decide +kernel
theorem dX8_orders_84 : decode cX8_orders 84 = .ok (.getfield 80, 3) := by decide +kernel
theorem dX8_orders_87 : decode cX8_orders 87 = .ok (.iconst 1, 1) := by decide +kernel
theorem dX8_orders_88 : decode cX8_orders 88 = .ok (.iadd, 1) := by decide +kernel
theorem dX8_orders_89 : decode cX8_orders 89 = .ok (.putfield 80, 3) := by decide +kernel
theorem dX8_orders_92 : decode cX8_orders 92 = .ok (.iinc 1 1, 3) := by decide +kernel
theorem dX8_orders_95 : decode cX8_orders 95 = .ok (.goto (-88), 3) := by decide +kernel
theorem dX8_orders_98 : decode cX8_orders 98 = .ok (.return_, 1) := by decide +kernel
theorem dX8_change_0 : decode cX8_change 0 = .ok (.aload_n 0, 1) := by decide +kernel
theorem dX8_change_1 : decode cX8_change 1 = .ok (.getfield 16, 3) := by decide +kernel
theorem dX8_change_4 : decode cX8_change 4 = .ok (.iload_n 1, 1) := by decide +kernel
theorem dX8_change_5 : decode cX8_change 5 = .ok (.iaload, 1) := by decide +kernel
theorem dX8_change_6 : decode cX8_change 6 = .ok (.iload_n 2, 1) := by decide +kernel
theorem dX8_change_7 : decode cX8_change 7 = .ok (.if_icmp .eq 7, 3) := by decide +kernel
theorem dX8_change_10 : decode cX8_change 10 = .ok (.iconst 0, 1) := by decide +kernel
theorem dX8_change_11 : decode cX8_change 11 = .ok (.goto 42, 3) := by decide +kernel
theorem dX8_change_14 : decode cX8_change 14 = .ok (.aload_n 0, 1) := by decide +kernel
theorem dX8_change_15 : decode cX8_change 15 = .ok (.getfield 7, 3) := by decide +kernel
theorem dX8_change_18 : decode cX8_change 18 = .ok (.iload_n 1, 1) := by decide +kernel
theorem dX8_change_19 : decode cX8_change 19 = .ok (.iaload, 1) := by decide +kernel
theorem dX8_change_20 : decode cX8_change 20 = .ok (.ifCond .ne 12, 3) := by decide +kernel
theorem dX8_change_23 : decode cX8_change 23 = .ok (.aload_n 0, 1) := by decide +kernel
theorem dX8_change_24 : decode cX8_change 24 = .ok (.getfield 19, 3) := by decide +kernel
theorem dX8_change_27 : decode cX8_change 27 = .ok (.iload_n 1, 1) := by decide +kernel
theorem dX8_change_28 : decode cX8_change 28 = .ok (.iaload, 1) := by decide +kernel
theorem dX8_change_29 : decode cX8_change 29 = .ok (.goto 24, 3) := by decide +kernel
theorem dX8_change_32 : decode cX8_change 32 = .ok (.aload_n 0, 1) := by decide +kernel
theorem dX8_change_33 : decode cX8_change 33 = .ok (.getfield 7, 3) := by decide +kernel
theorem dX8_change_36 : decode cX8_change 36 = .ok (.iload_n 1, 1) := by decide +kernel
theorem dX8_change_37 : decode cX8_change 37 = .ok (.iaload, 1) := by decide +kernel
theorem dX8_change_38 : decode cX8_change 38 = .ok (.iconst 1, 1) := by decide +kernel
theorem dX8_change_39 : decode cX8_change 39 = .ok (.if_icmp .ne 13, 3) := by decide +kernel
theorem dX8_change_42 : decode cX8_change 42 = .ok (.aload_n 0, 1) := by decide +kernel
theorem dX8_change_43 : decode cX8_change 43 = .ok (.getfield 19, 3) := by decide +kernel
theorem dX8_change_46 : decode cX8_change 46 = .ok (.iload_n 1, 1) := by decide +kernel
theorem dX8_change_47 : decode cX8_change 47 = .ok (.iaload, 1) := by decide +kernel
theorem dX8_change_48 : decode cX8_change 48 = .ok (.ineg, 1) := by decide +kernel
theorem dX8_change_49 : decode cX8_change 49 = .ok (.goto 4, 3) := by decide +kernel
theorem dX8_change_52 : decode cX8_change 52 = .ok (.iconst 0, 1) := by decide +kernel
theorem dX8_change_53 : decode cX8_change 53 = .ok (.ireturn, 1) := by decide +kernel
theorem dX8_takesUnits_0 : decode cX8_takesUnits 0 = .ok (.aload_n 0, 1) := by decide +kernel
theorem dX8_takesUnits_1 : decode cX8_takesUnits 1 = .ok (.getfield 16, 3) := by decide +kernel
theorem dX8_takesUnits_4 : decode cX8_takesUnits 4 = .ok (.iload_n 1, 1) := by decide +kernel
theorem dX8_takesUnits_5 : decode cX8_takesUnits 5 = .ok (.iaload, 1) := by decide +kernel
theorem dX8_takesUnits_6 : decode cX8_takesUnits 6 = .ok (.iload_n 2, 1) := by decide +kernel
theorem dX8_takesUnits_7 : decode cX8_takesUnits 7 = .ok (.if_icmp .ne 27, 3) := by decide +kernel
theorem dX8_takesUnits_10 : decode cX8_takesUnits 10 = .ok (.aload_n 0, 1) := by decide +kernel
theorem dX8_takesUnits_11 : decode cX8_takesUnits 11 = .ok (.getfield 7, 3) := by decide +kernel
theorem dX8_takesUnits_14 : decode cX8_takesUnits 14 = .ok (.iload_n 1, 1) := by decide +kernel
theorem dX8_takesUnits_15 : decode cX8_takesUnits 15 = .ok (.iaload, 1) := by decide +kernel
theorem dX8_takesUnits_16 : decode cX8_takesUnits 16 = .ok (.iconst 1, 1) := by decide +kernel
theorem dX8_takesUnits_17 : decode cX8_takesUnits 17 = .ok (.if_icmp .eq 13, 3) := by decide +kernel
theorem dX8_takesUnits_20 : decode cX8_takesUnits 20 = .ok (.aload_n 0, 1) := by decide +kernel
theorem dX8_takesUnits_21 : decode cX8_takesUnits 21 = .ok (.getfield 7, 3) := by decide +kernel
theorem dX8_takesUnits_24 : decode cX8_takesUnits 24 = .ok (.iload_n 1, 1) := by decide +kernel
theorem dX8_takesUnits_25 : decode cX8_takesUnits 25 = .ok (.iaload, 1) := by decide +kernel
theorem dX8_takesUnits_26 : decode cX8_takesUnits 26 = .ok (.iconst 2, 1) := by decide +kernel
theorem dX8_takesUnits_27 : decode cX8_takesUnits 27 = .ok (.if_icmp .ne 7, 3) := by decide +kernel
theorem dX8_takesUnits_30 : decode cX8_takesUnits 30 = .ok (.iconst 1, 1) := by decide +kernel
theorem dX8_takesUnits_31 : decode cX8_takesUnits 31 = .ok (.goto 4, 3) := by decide +kernel
theorem dX8_takesUnits_34 : decode cX8_takesUnits 34 = .ok (.iconst 0, 1) := by decide +kernel
theorem dX8_takesUnits_35 : decode cX8_takesUnits 35 = .ok (.ireturn, 1) := by decide +kernel
theorem dX8_isValid_0 : decode cX8_isValid 0 = .ok (.iconst 0, 1) := by decide +kernel
theorem dX8_isValid_1 : decode cX8_isValid 1 = .ok (.istore_n 2, 1) := by decide +kernel
theorem dX8_isValid_2 : decode cX8_isValid 2 = .ok (.iconst 1, 1) := by decide +kernel
theorem dX8_isValid_3 : decode cX8_isValid 3 = .ok (.istore_n 3, 1) := by decide +kernel
theorem dX8_isValid_4 : decode cX8_isValid 4 = .ok (.aload_n 0, 1) := by decide +kernel
theorem dX8_isValid_5 : decode cX8_isValid 5 = .ok (.invokevirtual 83, 3) := by decide +kernel
theorem dX8_isValid_8 : decode cX8_isValid 8 = .ok (.iconst 0, 1) := by decide +kernel
theorem dX8_isValid_9 : decode cX8_isValid 9 = .ok (.istore 4, 2) := by decide +kernel
theorem dX8_isValid_11 : decode cX8_isValid 11 = .ok (.iload 4, 2) := by decide +kernel
theorem dX8_isValid_13 : decode cX8_isValid 13 = .ok (.aload_n 0, 1) := by decide +kernel
theorem dX8_isValid_14 : decode cX8_isValid 14 = .ok (.getfield 80, 3) := by decide +kernel
theorem dX8_isValid_17 : decode cX8_isValid 17 = .ok (.if_icmp .ge 59, 3) := by decide +kernel
theorem dX8_isValid_20 : decode cX8_isValid 20 = .ok (.aload_n 0, 1) := by decide +kernel
theorem dX8_isValid_21 : decode cX8_isValid 21 = .ok (.getfield 43, 3) := by decide +kernel
theorem dX8_isValid_24 : decode cX8_isValid 24 = .ok (.iload 4, 2) := by decide +kernel
theorem dX8_isValid_26 : decode cX8_isValid 26 = .ok (.iaload, 1) := by decide +kernel
theorem dX8_isValid_27 : decode cX8_isValid 27 = .ok (.istore 5, 2) := by decide +kernel
theorem dX8_isValid_29 : decode cX8_isValid 29 = .ok (.iload_n 3, 1) := by decide +kernel
theorem dX8_isValid_30 : decode cX8_isValid 30 = .ok (.ifCond .eq 28, 3) := by decide +kernel
theorem dX8_isValid_33 : decode cX8_isValid 33 = .ok (.aload_n 0, 1) := by decide +kernel
theorem dX8_isValid_34 : decode cX8_isValid 34 = .ok (.iload 5, 2) := by decide +kernel
theorem dX8_isValid_36 : decode cX8_isValid 36 = .ok (.iload_n 1, 1) := by decide +kernel
theorem dX8_isValid_37 : decode cX8_isValid 37 = .ok (.invokevirtual 86, 3) := by decide +kernel
theorem dX8_isValid_40 : decode cX8_isValid 40 = .ok (.ifCond .eq 14, 3) := by decide +kernel
theorem dX8_isValid_43 : decode cX8_isValid 43 = .ok (.aload_n 0, 1) := by decide +kernel
theorem dX8_isValid_44 : decode cX8_isValid 44 = .ok (.getfield 19, 3) := by decide +kernel
theorem dX8_isValid_47 : decode cX8_isValid 47 = .ok (.iload 5, 2) := by decide +kernel
theorem dX8_isValid_49 : decode cX8_isValid 49 = .ok (.iaload, 1) := by decide +kernel
theorem dX8_isValid_50 : decode cX8_isValid 50 = .ok (.iload_n 2, 1) := by decide +kernel
theorem dX8_isValid_51 : decode cX8_isValid 51 = .ok (.if_icmp .gt 7, 3) := by decide +kernel
theorem dX8_isValid_54 : decode cX8_isValid 54 = .ok (.iconst 1, 1) := by decide +kernel
theorem dX8_isValid_55 : decode cX8_isValid 55 = .ok (.goto 4, 3) := by decide +kernel
theorem dX8_isValid_58 : decode cX8_isValid 58 = .ok (.iconst 0, 1) := by decide +kernel
theorem dX8_isValid_59 : decode cX8_isValid 59 = .ok (.istore_n 3, 1) := by decide +kernel
theorem dX8_isValid_60 : decode cX8_isValid 60 = .ok (.iload_n 2, 1) := by decide +kernel
theorem dX8_isValid_61 : decode cX8_isValid 61 = .ok (.aload_n 0, 1) := by decide +kernel
theorem dX8_isValid_62 : decode cX8_isValid 62 = .ok (.iload 5, 2) := by decide +kernel
theorem dX8_isValid_64 : decode cX8_isValid 64 = .ok (.iload_n 1, 1) := by decide +kernel
theorem dX8_isValid_65 : decode cX8_isValid 65 = .ok (.invokevirtual 90, 3) := by decide +kernel
theorem dX8_isValid_68 : decode cX8_isValid 68 = .ok (.iadd, 1) := by decide +kernel
theorem dX8_isValid_69 : decode cX8_isValid 69 = .ok (.istore_n 2, 1) := by decide +kernel
theorem dX8_isValid_70 : decode cX8_isValid 70 = .ok (.iinc 4 1, 3) := by decide +kernel
theorem dX8_isValid_73 : decode cX8_isValid 73 = .ok (.goto (-62), 3) := by decide +kernel
theorem dX8_isValid_76 : decode cX8_isValid 76 = .ok (.iload_n 3, 1) := by decide +kernel
theorem dX8_isValid_77 : decode cX8_isValid 77 = .ok (.ireturn, 1) := by decide +kernel
theorem dX8_posts_0 : decode cX8_posts 0 = .ok (.aload_n 0, 1) := by decide +kernel
theorem dX8_posts_1 : decode cX8_posts 1 = .ok (.getfield 7, 3) := by decide +kernel
theorem dX8_posts_4 : decode cX8_posts 4 = .ok (.aload_n 0, 1) := by decide +kernel
theorem dX8_posts_5 : decode cX8_posts 5 = .ok (.getfield 77, 3) := by decide +kernel
theorem dX8_posts_8 : decode cX8_posts 8 = .ok (.iload_n 1, 1) := by decide +kernel
theorem dX8_posts_9 : decode cX8_posts 9 = .ok (.iastore, 1) := by decide +kernel
theorem dX8_posts_10 : decode cX8_posts 10 = .ok (.aload_n 0, 1) := by decide +kernel
theorem dX8_posts_11 : decode cX8_posts 11 = .ok (.getfield 13, 3) := by decide +kernel
theorem dX8_posts_14 : decode cX8_posts 14 = .ok (.aload_n 0, 1) := by decide +kernel
theorem dX8_posts_15 : decode cX8_posts 15 = .ok (.getfield 77, 3) := by decide +kernel
theorem dX8_posts_18 : decode cX8_posts 18 = .ok (.iload_n 2, 1) := by decide +kernel
theorem dX8_posts_19 : decode cX8_posts 19 = .ok (.iastore, 1) := by decide +kernel
theorem dX8_posts_20 : decode cX8_posts 20 = .ok (.aload_n 0, 1) := by decide +kernel
theorem dX8_posts_21 : decode cX8_posts 21 = .ok (.getfield 16, 3) := by decide +kernel
theorem dX8_posts_24 : decode cX8_posts 24 = .ok (.aload_n 0, 1) := by decide +kernel
theorem dX8_posts_25 : decode cX8_posts 25 = .ok (.getfield 77, 3) := by decide +kernel
theorem dX8_posts_28 : decode cX8_posts 28 = .ok (.iload_n 3, 1) := by decide +kernel
theorem dX8_posts_29 : decode cX8_posts 29 = .ok (.iastore, 1) := by decide +kernel
theorem dX8_posts_30 : decode cX8_posts 30 = .ok (.aload_n 0, 1) := by decide +kernel
theorem dX8_posts_31 : decode cX8_posts 31 = .ok (.getfield 19, 3) := by decide +kernel
theorem dX8_posts_34 : decode cX8_posts 34 = .ok (.aload_n 0, 1) := by decide +kernel
theorem dX8_posts_35 : decode cX8_posts 35 = .ok (.getfield 77, 3) := by decide +kernel
theorem dX8_posts_38 : decode cX8_posts 38 = .ok (.iload 4, 2) := by decide +kernel
theorem dX8_posts_40 : decode cX8_posts 40 = .ok (.iastore, 1) := by decide +kernel
theorem dX8_posts_41 : decode cX8_posts 41 = .ok (.aload_n 0, 1) := by decide +kernel
theorem dX8_posts_42 : decode cX8_posts 42 = .ok (.getfield 22, 3) := by decide +kernel
theorem dX8_posts_45 : decode cX8_posts 45 = .ok (.aload_n 0, 1) := by decide +kernel
theorem dX8_posts_46 : decode cX8_posts 46 = .ok (.getfield 77, 3) := by decide +kernel
theorem dX8_posts_49 : decode cX8_posts 49 = .ok (.iload 5, 2) := by decide +kernel
theorem dX8_posts_51 : decode cX8_posts 51 = .ok (.iastore, 1) := by decide +kernel
theorem dX8_posts_52 : decode cX8_posts 52 = .ok (.aload_n 0, 1) := by decide +kernel
theorem dX8_posts_53 : decode cX8_posts 53 = .ok (.getfield 25, 3) := by decide +kernel
theorem dX8_posts_56 : decode cX8_posts 56 = .ok (.aload_n 0, 1) := by decide +kernel
theorem dX8_posts_57 : decode cX8_posts 57 = .ok (.getfield 77, 3) := by decide +kernel
theorem dX8_posts_60 : decode cX8_posts 60 = .ok (.iconst 0, 1) := by decide +kernel
theorem dX8_posts_61 : decode cX8_posts 61 = .ok (.bastore, 1) := by decide +kernel
theorem dX8_posts_62 : decode cX8_posts 62 = .ok (.iconst 0, 1) := by decide +kernel
theorem dX8_posts_63 : decode cX8_posts 63 = .ok (.istore 6, 2) := by decide +kernel
theorem dX8_posts_65 : decode cX8_posts 65 = .ok (.iload 6, 2) := by decide +kernel
theorem dX8_posts_67 : decode cX8_posts 67 = .ok (.bipush 60, 2) := by decide +kernel
theorem dX8_posts_69 : decode cX8_posts 69 = .ok (.if_icmp .ge 25, 3) := by decide +kernel
theorem dX8_posts_72 : decode cX8_posts 72 = .ok (.aload_n 0, 1) := by decide +kernel
theorem dX8_posts_73 : decode cX8_posts 73 = .ok (.getfield 33, 3) := by decide +kernel
theorem dX8_posts_76 : decode cX8_posts 76 = .ok (.bipush 60, 2) := by decide +kernel
theorem dX8_posts_78 : decode cX8_posts 78 = .ok (.aload_n 0, 1) := by decide +kernel
theorem dX8_posts_79 : decode cX8_posts 79 = .ok (.getfield 77, 3) := by decide +kernel
theorem dX8_posts_82 : decode cX8_posts 82 = .ok (.imul, 1) := by decide +kernel
theorem dX8_posts_83 : decode cX8_posts 83 = .ok (.iload 6, 2) := by decide +kernel
theorem dX8_posts_85 : decode cX8_posts 85 = .ok (.iadd, 1) := by decide +kernel
theorem dX8_posts_86 : decode cX8_posts 86 = .ok (.iconst 0, 1) := by decide +kernel
theorem dX8_posts_87 : decode cX8_posts 87 = .ok (.iastore, 1) := by decide +kernel
theorem dX8_posts_88 : decode cX8_posts 88 = .ok (.iinc 6 1, 3) := by decide +kernel
theorem dX8_posts_91 : decode cX8_posts 91 = .ok (.goto (-26), 3) := by decide +kernel
theorem dX8_posts_94 : decode cX8_posts 94 = .ok (.aload_n 0, 1) := by decide +kernel
theorem dX8_posts_95 : decode cX8_posts 95 = .ok (.dup, 1) := by decide +kernel
theorem dX8_posts_96 : decode cX8_posts 96 = .ok (.getfield 77, 3) := by decide +kernel
theorem dX8_posts_99 : decode cX8_posts 99 = .ok (.iconst 1, 1) := by decide +kernel
theorem dX8_posts_100 : decode cX8_posts 100 = .ok (.iadd, 1) := by decide +kernel
theorem dX8_posts_101 : decode cX8_posts 101 = .ok (.putfield 77, 3) := by decide +kernel
theorem dX8_posts_104 : decode cX8_posts 104 = .ok (.iload_n 1, 1) := by decide +kernel
theorem dX8_posts_105 : decode cX8_posts 105 = .ok (.iconst 3, 1) := by decide +kernel
theorem dX8_posts_106 : decode cX8_posts 106 = .ok (.if_icmp .eq 11, 3) := by decide +kernel
theorem dX8_posts_109 : decode cX8_posts 109 = .ok (.aload_n 0, 1) := by decide +kernel
theorem dX8_posts_110 : decode cX8_posts 110 = .ok (.iload_n 3, 1) := by decide +kernel
theorem dX8_posts_111 : decode cX8_posts 111 = .ok (.invokevirtual 94, 3) := by decide +kernel
theorem dX8_posts_114 : decode cX8_posts 114 = .ok (.ifCond .eq 7, 3) := by decide +kernel
theorem dX8_posts_117 : decode cX8_posts 117 = .ok (.iconst 1, 1) := by decide +kernel
theorem dX8_posts_118 : decode cX8_posts 118 = .ok (.goto 4, 3) := by decide +kernel
theorem dX8_posts_121 : decode cX8_posts 121 = .ok (.iconst 0, 1) := by decide +kernel
theorem dX8_posts_122 : decode cX8_posts 122 = .ok (.istore 6, 2) := by decide +kernel
theorem dX8_posts_124 : decode cX8_posts 124 = .ok (.aload_n 0, 1) := by decide +kernel
theorem dX8_posts_125 : decode cX8_posts 125 = .ok (.dup, 1) := by decide +kernel
theorem dX8_posts_126 : decode cX8_posts 126 = .ok (.getfield 77, 3) := by decide +kernel
theorem dX8_posts_129 : decode cX8_posts 129 = .ok (.iload 6, 2) := by decide +kernel
theorem dX8_posts_131 : decode cX8_posts 131 = .ok (.ifCond .eq 7, 3) := by decide +kernel
theorem dX8_posts_134 : decode cX8_posts 134 = .ok (.iconst 0, 1) := by decide +kernel
theorem dX8_posts_135 : decode cX8_posts 135 = .ok (.goto 4, 3) := by decide +kernel
theorem dX8_posts_138 : decode cX8_posts 138 = .ok (.iconst 1, 1) := by decide +kernel
theorem dX8_posts_139 : decode cX8_posts 139 = .ok (.isub, 1) := by decide +kernel
theorem dX8_posts_140 : decode cX8_posts 140 = .ok (.putfield 77, 3) := by decide +kernel
theorem dX8_posts_143 : decode cX8_posts 143 = .ok (.iload 6, 2) := by decide +kernel
theorem dX8_posts_145 : decode cX8_posts 145 = .ok (.ireturn, 1) := by decide +kernel
theorem dX8_wrong_0 : decode cX8_wrong 0 = .ok (.iload_n 1, 1) := by decide +kernel
theorem dX8_wrong_1 : decode cX8_wrong 1 = .ok (.invokestatic 98, 3) := by decide +kernel
theorem dX8_wrong_4 : decode cX8_wrong 4 = .ok (.ifCond .eq 32, 3) := by decide +kernel
theorem dX8_wrong_7 : decode cX8_wrong 7 = .ok (.iload_n 2, 1) := by decide +kernel
theorem dX8_wrong_8 : decode cX8_wrong 8 = .ok (.invokestatic 101, 3) := by decide +kernel
theorem dX8_wrong_11 : decode cX8_wrong 11 = .ok (.ifCond .eq 25, 3) := by decide +kernel
theorem dX8_wrong_14 : decode cX8_wrong 14 = .ok (.iload_n 3, 1) := by decide +kernel
theorem dX8_wrong_15 : decode cX8_wrong 15 = .ok (.iconst 1, 1) := by decide +kernel
theorem dX8_wrong_16 : decode cX8_wrong 16 = .ok (.sipush 1000, 3) := by decide +kernel
theorem dX8_wrong_19 : decode cX8_wrong 19 = .ok (.invokestatic 73, 3) := by decide +kernel
theorem dX8_wrong_22 : decode cX8_wrong 22 = .ok (.ifCond .eq 14, 3) := by decide +kernel
theorem dX8_wrong_25 : decode cX8_wrong 25 = .ok (.iload 4, 2) := by decide +kernel
theorem dX8_wrong_27 : decode cX8_wrong 27 = .ok (.iconst 0, 1) := by decide +kernel
theorem dX8_wrong_28 : decode cX8_wrong 28 = .ok (.ldc 104, 2) := by decide +kernel
theorem dX8_wrong_30 : decode cX8_wrong 30 = .ok (.invokestatic 73, 3) := by decide +kernel
theorem dX8_wrong_33 : decode cX8_wrong 33 = .ok (.ifCond .ne 7, 3) := by decide +kernel
theorem dX8_wrong_36 : decode cX8_wrong 36 = .ok (.iconst 1, 1) := by decide +kernel
theorem dX8_wrong_37 : decode cX8_wrong 37 = .ok (.goto 16, 3) := by decide +kernel
theorem dX8_wrong_40 : decode cX8_wrong 40 = .ok (.aload_n 0, 1) := by decide +kernel
theorem dX8_wrong_41 : decode cX8_wrong 41 = .ok (.iload_n 1, 1) := by decide +kernel
theorem dX8_wrong_42 : decode cX8_wrong 42 = .ok (.invokevirtual 105, 3) := by decide +kernel
theorem dX8_wrong_45 : decode cX8_wrong 45 = .ok (.ifCond .eq 7, 3) := by decide +kernel
theorem dX8_wrong_48 : decode cX8_wrong 48 = .ok (.iconst 2, 1) := by decide +kernel
theorem dX8_wrong_49 : decode cX8_wrong 49 = .ok (.goto 4, 3) := by decide +kernel
theorem dX8_wrong_52 : decode cX8_wrong 52 = .ok (.iconst 0, 1) := by decide +kernel
theorem dX8_wrong_53 : decode cX8_wrong 53 = .ok (.ireturn, 1) := by decide +kernel
theorem dX8_post_0 : decode cX8_post 0 = .ok (.aload_n 0, 1) := by decide +kernel
theorem dX8_post_1 : decode cX8_post 1 = .ok (.aload_n 0, 1) := by decide +kernel
theorem dX8_post_2 : decode cX8_post 2 = .ok (.iload_n 2, 1) := by decide +kernel
theorem dX8_post_3 : decode cX8_post 3 = .ok (.iload_n 3, 1) := by decide +kernel
theorem dX8_post_4 : decode cX8_post 4 = .ok (.iload 4, 2) := by decide +kernel
theorem dX8_post_6 : decode cX8_post 6 = .ok (.iload 5, 2) := by decide +kernel
theorem dX8_post_8 : decode cX8_post 8 = .ok (.invokevirtual 108, 3) := by decide +kernel
theorem dX8_post_11 : decode cX8_post 11 = .ok (.invokevirtual 112, 3) := by decide +kernel
theorem dX8_post_14 : decode cX8_post 14 = .ok (.ifCond .ne 5, 3) := by decide +kernel
theorem dX8_post_17 : decode cX8_post 17 = .ok (.iconst 0, 1) := by decide +kernel
theorem dX8_post_18 : decode cX8_post 18 = .ok (.ireturn, 1) := by decide +kernel
theorem dX8_post_19 : decode cX8_post 19 = .ok (.aload_n 0, 1) := by decide +kernel
theorem dX8_post_20 : decode cX8_post 20 = .ok (.aload_n 0, 1) := by decide +kernel
theorem dX8_post_21 : decode cX8_post 21 = .ok (.iload_n 1, 1) := by decide +kernel
theorem dX8_post_22 : decode cX8_post 22 = .ok (.iload_n 2, 1) := by decide +kernel
theorem dX8_post_23 : decode cX8_post 23 = .ok (.iload_n 3, 1) := by decide +kernel
theorem dX8_post_24 : decode cX8_post 24 = .ok (.iload 4, 2) := by decide +kernel
theorem dX8_post_26 : decode cX8_post 26 = .ok (.iload 5, 2) := by decide +kernel
theorem dX8_post_28 : decode cX8_post 28 = .ok (.invokevirtual 115, 3) := by decide +kernel
theorem dX8_post_31 : decode cX8_post 31 = .ok (.ifCond .eq 7, 3) := by decide +kernel
theorem dX8_post_34 : decode cX8_post 34 = .ok (.iconst 0, 1) := by decide +kernel
theorem dX8_post_35 : decode cX8_post 35 = .ok (.goto 4, 3) := by decide +kernel
theorem dX8_post_38 : decode cX8_post 38 = .ok (.iconst 2, 1) := by decide +kernel
theorem dX8_post_39 : decode cX8_post 39 = .ok (.invokevirtual 112, 3) := by decide +kernel
theorem dX8_post_42 : decode cX8_post 42 = .ok (.ifCond .eq 12, 3) := by decide +kernel
theorem dX8_post_45 : decode cX8_post 45 = .ok (.aload_n 0, 1) := by decide +kernel
theorem dX8_post_46 : decode cX8_post 46 = .ok (.getfield 77, 3) := by decide +kernel
theorem dX8_post_49 : decode cX8_post 49 = .ok (.iconst 1, 1) := by decide +kernel
theorem dX8_post_50 : decode cX8_post 50 = .ok (.isub, 1) := by decide +kernel
theorem dX8_post_51 : decode cX8_post 51 = .ok (.goto 4, 3) := by decide +kernel
theorem dX8_post_54 : decode cX8_post 54 = .ok (.iconst 0, 1) := by decide +kernel
theorem dX8_post_55 : decode cX8_post 55 = .ok (.ireturn, 1) := by decide +kernel
theorem dX8_receive_0 : decode cX8_receive 0 = .ok (.aload_n 0, 1) := by decide +kernel
theorem dX8_receive_1 : decode cX8_receive 1 = .ok (.iconst 0, 1) := by decide +kernel
theorem dX8_receive_2 : decode cX8_receive 2 = .ok (.iload_n 1, 1) := by decide +kernel
theorem dX8_receive_3 : decode cX8_receive 3 = .ok (.iload_n 2, 1) := by decide +kernel
theorem dX8_receive_4 : decode cX8_receive 4 = .ok (.iload_n 3, 1) := by decide +kernel
theorem dX8_receive_5 : decode cX8_receive 5 = .ok (.iload 4, 2) := by decide +kernel
theorem dX8_receive_7 : decode cX8_receive 7 = .ok (.invokevirtual 119, 3) := by decide +kernel
theorem dX8_receive_10 : decode cX8_receive 10 = .ok (.ireturn, 1) := by decide +kernel
theorem dX8_issue_0 : decode cX8_issue 0 = .ok (.aload_n 0, 1) := by decide +kernel
theorem dX8_issue_1 : decode cX8_issue 1 = .ok (.iconst 1, 1) := by decide +kernel
theorem dX8_issue_2 : decode cX8_issue 2 = .ok (.iload_n 1, 1) := by decide +kernel
theorem dX8_issue_3 : decode cX8_issue 3 = .ok (.iload_n 2, 1) := by decide +kernel
theorem dX8_issue_4 : decode cX8_issue 4 = .ok (.iload_n 3, 1) := by decide +kernel
theorem dX8_issue_5 : decode cX8_issue 5 = .ok (.iconst 0, 1) := by decide +kernel
theorem dX8_issue_6 : decode cX8_issue 6 = .ok (.invokevirtual 119, 3) := by decide +kernel
theorem dX8_issue_9 : decode cX8_issue 9 = .ok (.ireturn, 1) := by decide +kernel
theorem dX8_revalue_0 : decode cX8_revalue 0 = .ok (.aload_n 0, 1) := by decide +kernel
theorem dX8_revalue_1 : decode cX8_revalue 1 = .ok (.iconst 2, 1) := by decide +kernel
theorem dX8_revalue_2 : decode cX8_revalue 2 = .ok (.iload_n 1, 1) := by decide +kernel
theorem dX8_revalue_3 : decode cX8_revalue 3 = .ok (.iload_n 2, 1) := by decide +kernel
theorem dX8_revalue_4 : decode cX8_revalue 4 = .ok (.iload_n 3, 1) := by decide +kernel
theorem dX8_revalue_5 : decode cX8_revalue 5 = .ok (.iload 4, 2) := by decide +kernel
theorem dX8_revalue_7 : decode cX8_revalue 7 = .ok (.invokevirtual 119, 3) := by decide +kernel
theorem dX8_revalue_10 : decode cX8_revalue 10 = .ok (.ireturn, 1) := by decide +kernel
theorem dX8_has_0 : decode cX8_has 0 = .ok (.lload_n 0, 1) := by decide +kernel
theorem dX8_has_1 : decode cX8_has 1 = .ok (.iload_n 2, 1) := by decide +kernel
theorem dX8_has_2 : decode cX8_has 2 = .ok (.lshr, 1) := by decide +kernel
theorem dX8_has_3 : decode cX8_has 3 = .ok (.lconst 1, 1) := by decide +kernel
theorem dX8_has_4 : decode cX8_has 4 = .ok (.land, 1) := by decide +kernel
theorem dX8_has_5 : decode cX8_has 5 = .ok (.lconst 1, 1) := by decide +kernel
theorem dX8_has_6 : decode cX8_has 6 = .ok (.lcmp, 1) := by decide +kernel
theorem dX8_has_7 : decode cX8_has 7 = .ok (.ifCond .ne 7, 3) := by decide +kernel
theorem dX8_has_10 : decode cX8_has 10 = .ok (.iconst 1, 1) := by decide +kernel
theorem dX8_has_11 : decode cX8_has 11 = .ok (.goto 4, 3) := by decide +kernel
theorem dX8_has_14 : decode cX8_has 14 = .ok (.iconst 0, 1) := by decide +kernel
theorem dX8_has_15 : decode cX8_has 15 = .ok (.ireturn, 1) := by decide +kernel
theorem dX8_basisOf_0 : decode cX8_basisOf 0 = .ok (.iload_n 2, 1) := by decide +kernel
theorem dX8_basisOf_1 : decode cX8_basisOf 1 = .ok (.ifCond .ne 13, 3) := by decide +kernel
theorem dX8_basisOf_4 : decode cX8_basisOf 4 = .ok (.aload_n 0, 1) := by decide +kernel
theorem dX8_basisOf_5 : decode cX8_basisOf 5 = .ok (.getfield 19, 3) := by decide +kernel
theorem dX8_basisOf_8 : decode cX8_basisOf 8 = .ok (.iload_n 1, 1) := by decide +kernel
theorem dX8_basisOf_9 : decode cX8_basisOf 9 = .ok (.iaload, 1) := by decide +kernel
theorem dX8_basisOf_10 : decode cX8_basisOf 10 = .ok (.i2l, 1) := by decide +kernel
theorem dX8_basisOf_11 : decode cX8_basisOf 11 = .ok (.goto 38, 3) := by decide +kernel
theorem dX8_basisOf_14 : decode cX8_basisOf 14 = .ok (.iload_n 2, 1) := by decide +kernel
theorem dX8_basisOf_15 : decode cX8_basisOf 15 = .ok (.iconst 1, 1) := by decide +kernel
theorem dX8_basisOf_16 : decode cX8_basisOf 16 = .ok (.if_icmp .ne 13, 3) := by decide +kernel
theorem dX8_basisOf_19 : decode cX8_basisOf 19 = .ok (.aload_n 0, 1) := by decide +kernel
theorem dX8_basisOf_20 : decode cX8_basisOf 20 = .ok (.getfield 22, 3) := by decide +kernel
theorem dX8_basisOf_23 : decode cX8_basisOf 23 = .ok (.iload_n 1, 1) := by decide +kernel
theorem dX8_basisOf_24 : decode cX8_basisOf 24 = .ok (.iaload, 1) := by decide +kernel
theorem dX8_basisOf_25 : decode cX8_basisOf 25 = .ok (.i2l, 1) := by decide +kernel
theorem dX8_basisOf_26 : decode cX8_basisOf 26 = .ok (.goto 23, 3) := by decide +kernel
theorem dX8_basisOf_29 : decode cX8_basisOf 29 = .ok (.aload_n 0, 1) := by decide +kernel
theorem dX8_basisOf_30 : decode cX8_basisOf 30 = .ok (.getfield 19, 3) := by decide +kernel
theorem dX8_basisOf_33 : decode cX8_basisOf 33 = .ok (.iload_n 1, 1) := by decide +kernel
theorem dX8_basisOf_34 : decode cX8_basisOf 34 = .ok (.iaload, 1) := by decide +kernel
theorem dX8_basisOf_35 : decode cX8_basisOf 35 = .ok (.i2l, 1) := by decide +kernel
theorem dX8_basisOf_36 : decode cX8_basisOf 36 = .ok (.aload_n 0, 1) := by decide +kernel
theorem dX8_basisOf_37 : decode cX8_basisOf 37 = .ok (.getfield 40, 3) := by decide +kernel
theorem dX8_basisOf_40 : decode cX8_basisOf 40 = .ok (.aload_n 0, 1) := by decide +kernel
theorem dX8_basisOf_41 : decode cX8_basisOf 41 = .ok (.getfield 16, 3) := by decide +kernel
theorem dX8_basisOf_44 : decode cX8_basisOf 44 = .ok (.iload_n 1, 1) := by decide +kernel
theorem dX8_basisOf_45 : decode cX8_basisOf 45 = .ok (.iaload, 1) := by decide +kernel
theorem dX8_basisOf_46 : decode cX8_basisOf 46 = .ok (.iaload, 1) := by decide +kernel
theorem dX8_basisOf_47 : decode cX8_basisOf 47 = .ok (.i2l, 1) := by decide +kernel
theorem dX8_basisOf_48 : decode cX8_basisOf 48 = .ok (.lmul, 1) := by decide +kernel
theorem dX8_basisOf_49 : decode cX8_basisOf 49 = .ok (.lreturn, 1) := by decide +kernel
theorem dX8_sumOf_0 : decode cX8_sumOf 0 = .ok (.lconst 0, 1) := by decide +kernel
theorem dX8_sumOf_1 : decode cX8_sumOf 1 = .ok (.lstore 4, 2) := by decide +kernel
theorem dX8_sumOf_3 : decode cX8_sumOf 3 = .ok (.iconst 0, 1) := by decide +kernel
theorem dX8_sumOf_4 : decode cX8_sumOf 4 = .ok (.istore 6, 2) := by decide +kernel
theorem dX8_sumOf_6 : decode cX8_sumOf 6 = .ok (.iload 6, 2) := by decide +kernel
theorem dX8_sumOf_8 : decode cX8_sumOf 8 = .ok (.aload_n 0, 1) := by decide +kernel
theorem dX8_sumOf_9 : decode cX8_sumOf 9 = .ok (.getfield 77, 3) := by decide +kernel
theorem dX8_sumOf_12 : decode cX8_sumOf 12 = .ok (.if_icmp .ge 34, 3) := by decide +kernel
theorem dX8_sumOf_15 : decode cX8_sumOf 15 = .ok (.lload 4, 2) := by decide +kernel
theorem dX8_sumOf_17 : decode cX8_sumOf 17 = .ok (.lload_n 1, 1) := by decide +kernel
theorem dX8_sumOf_18 : decode cX8_sumOf 18 = .ok (.iload 6, 2) := by decide +kernel
theorem dX8_sumOf_20 : decode cX8_sumOf 20 = .ok (.invokestatic 123, 3) := by decide +kernel
theorem dX8_sumOf_23 : decode cX8_sumOf 23 = .ok (.ifCond .eq 13, 3) := by decide +kernel
theorem dX8_sumOf_26 : decode cX8_sumOf 26 = .ok (.aload_n 0, 1) := by decide +kernel
theorem dX8_sumOf_27 : decode cX8_sumOf 27 = .ok (.iload 6, 2) := by decide +kernel
theorem dX8_sumOf_29 : decode cX8_sumOf 29 = .ok (.iload_n 3, 1) := by decide +kernel
theorem dX8_sumOf_30 : decode cX8_sumOf 30 = .ok (.invokevirtual 127, 3) := by decide +kernel
theorem dX8_sumOf_33 : decode cX8_sumOf 33 = .ok (.goto 4, 3) := by decide +kernel
theorem dX8_sumOf_36 : decode cX8_sumOf 36 = .ok (.lconst 0, 1) := by decide +kernel
theorem dX8_sumOf_37 : decode cX8_sumOf 37 = .ok (.ladd, 1) := by decide +kernel
theorem dX8_sumOf_38 : decode cX8_sumOf 38 = .ok (.lstore 4, 2) := by decide +kernel
theorem dX8_sumOf_40 : decode cX8_sumOf 40 = .ok (.iinc 6 1, 3) := by decide +kernel
theorem dX8_sumOf_43 : decode cX8_sumOf 43 = .ok (.goto (-37), 3) := by decide +kernel
theorem dX8_sumOf_46 : decode cX8_sumOf 46 = .ok (.lload 4, 2) := by decide +kernel
theorem dX8_sumOf_48 : decode cX8_sumOf 48 = .ok (.lreturn, 1) := by decide +kernel
theorem dX8_areReceipts_0 : decode cX8_areReceipts 0 = .ok (.iconst 1, 1) := by decide +kernel
theorem dX8_areReceipts_1 : decode cX8_areReceipts 1 = .ok (.istore 4, 2) := by decide +kernel
theorem dX8_areReceipts_3 : decode cX8_areReceipts 3 = .ok (.iconst 0, 1) := by decide +kernel
theorem dX8_areReceipts_4 : decode cX8_areReceipts 4 = .ok (.istore 5, 2) := by decide +kernel
theorem dX8_areReceipts_6 : decode cX8_areReceipts 6 = .ok (.iload 5, 2) := by decide +kernel
theorem dX8_areReceipts_8 : decode cX8_areReceipts 8 = .ok (.aload_n 0, 1) := by decide +kernel
theorem dX8_areReceipts_9 : decode cX8_areReceipts 9 = .ok (.getfield 77, 3) := by decide +kernel
theorem dX8_areReceipts_12 : decode cX8_areReceipts 12 = .ok (.if_icmp .ge 61, 3) := by decide +kernel
theorem dX8_areReceipts_15 : decode cX8_areReceipts 15 = .ok (.iload 4, 2) := by decide +kernel
theorem dX8_areReceipts_17 : decode cX8_areReceipts 17 = .ok (.ifCond .eq 47, 3) := by decide +kernel
theorem dX8_areReceipts_20 : decode cX8_areReceipts 20 = .ok (.lload_n 1, 1) := by decide +kernel
theorem dX8_areReceipts_21 : decode cX8_areReceipts 21 = .ok (.iload 5, 2) := by decide +kernel
theorem dX8_areReceipts_23 : decode cX8_areReceipts 23 = .ok (.invokestatic 123, 3) := by decide +kernel
theorem dX8_areReceipts_26 : decode cX8_areReceipts 26 = .ok (.ifCond .eq 34, 3) := by decide +kernel
theorem dX8_areReceipts_29 : decode cX8_areReceipts 29 = .ok (.aload_n 0, 1) := by decide +kernel
theorem dX8_areReceipts_30 : decode cX8_areReceipts 30 = .ok (.getfield 25, 3) := by decide +kernel
theorem dX8_areReceipts_33 : decode cX8_areReceipts 33 = .ok (.iload 5, 2) := by decide +kernel
theorem dX8_areReceipts_35 : decode cX8_areReceipts 35 = .ok (.baload, 1) := by decide +kernel
theorem dX8_areReceipts_36 : decode cX8_areReceipts 36 = .ok (.ifCond .ne 28, 3) := by decide +kernel
theorem dX8_areReceipts_39 : decode cX8_areReceipts 39 = .ok (.aload_n 0, 1) := by decide +kernel
theorem dX8_areReceipts_40 : decode cX8_areReceipts 40 = .ok (.getfield 7, 3) := by decide +kernel
theorem dX8_areReceipts_43 : decode cX8_areReceipts 43 = .ok (.iload 5, 2) := by decide +kernel
theorem dX8_areReceipts_45 : decode cX8_areReceipts 45 = .ok (.iaload, 1) := by decide +kernel
theorem dX8_areReceipts_46 : decode cX8_areReceipts 46 = .ok (.ifCond .ne 18, 3) := by decide +kernel
theorem dX8_areReceipts_49 : decode cX8_areReceipts 49 = .ok (.aload_n 0, 1) := by decide +kernel
theorem dX8_areReceipts_50 : decode cX8_areReceipts 50 = .ok (.getfield 13, 3) := by decide +kernel
theorem dX8_areReceipts_53 : decode cX8_areReceipts 53 = .ok (.iload 5, 2) := by decide +kernel
theorem dX8_areReceipts_55 : decode cX8_areReceipts 55 = .ok (.iaload, 1) := by decide +kernel
theorem dX8_areReceipts_56 : decode cX8_areReceipts 56 = .ok (.iload_n 3, 1) := by decide +kernel
theorem dX8_areReceipts_57 : decode cX8_areReceipts 57 = .ok (.if_icmp .gt 7, 3) := by decide +kernel
theorem dX8_areReceipts_60 : decode cX8_areReceipts 60 = .ok (.iconst 1, 1) := by decide +kernel
theorem dX8_areReceipts_61 : decode cX8_areReceipts 61 = .ok (.goto 4, 3) := by decide +kernel
theorem dX8_areReceipts_64 : decode cX8_areReceipts 64 = .ok (.iconst 0, 1) := by decide +kernel
theorem dX8_areReceipts_65 : decode cX8_areReceipts 65 = .ok (.istore 4, 2) := by decide +kernel
theorem dX8_areReceipts_67 : decode cX8_areReceipts 67 = .ok (.iinc 5 1, 3) := by decide +kernel
theorem dX8_areReceipts_70 : decode cX8_areReceipts 70 = .ok (.goto (-64), 3) := by decide +kernel
theorem dX8_areReceipts_73 : decode cX8_areReceipts 73 = .ok (.iload 4, 2) := by decide +kernel
theorem dX8_areReceipts_75 : decode cX8_areReceipts 75 = .ok (.ireturn, 1) := by decide +kernel
theorem dX8_areMovements_0 : decode cX8_areMovements 0 = .ok (.iconst 1, 1) := by decide +kernel
theorem dX8_areMovements_1 : decode cX8_areMovements 1 = .ok (.istore_n 3, 1) := by decide +kernel
theorem dX8_areMovements_2 : decode cX8_areMovements 2 = .ok (.aload_n 0, 1) := by decide +kernel
theorem dX8_areMovements_3 : decode cX8_areMovements 3 = .ok (.getfield 77, 3) := by decide +kernel
theorem dX8_areMovements_6 : decode cX8_areMovements 6 = .ok (.istore 4, 2) := by decide +kernel
theorem dX8_areMovements_8 : decode cX8_areMovements 8 = .ok (.iload 4, 2) := by decide +kernel
theorem dX8_areMovements_10 : decode cX8_areMovements 10 = .ok (.bipush 64, 2) := by decide +kernel
theorem dX8_areMovements_12 : decode cX8_areMovements 12 = .ok (.if_icmp .ge 28, 3) := by decide +kernel
theorem dX8_areMovements_15 : decode cX8_areMovements 15 = .ok (.iload_n 3, 1) := by decide +kernel
theorem dX8_areMovements_16 : decode cX8_areMovements 16 = .ok (.ifCond .eq 16, 3) := by decide +kernel
theorem dX8_areMovements_19 : decode cX8_areMovements 19 = .ok (.lload_n 1, 1) := by decide +kernel
theorem dX8_areMovements_20 : decode cX8_areMovements 20 = .ok (.iload 4, 2) := by decide +kernel
theorem dX8_areMovements_22 : decode cX8_areMovements 22 = .ok (.invokestatic 123, 3) := by decide +kernel
theorem dX8_areMovements_25 : decode cX8_areMovements 25 = .ok (.ifCond .ne 7, 3) := by decide +kernel
theorem dX8_areMovements_28 : decode cX8_areMovements 28 = .ok (.iconst 1, 1) := by decide +kernel
theorem dX8_areMovements_29 : decode cX8_areMovements 29 = .ok (.goto 4, 3) := by decide +kernel
theorem dX8_areMovements_32 : decode cX8_areMovements 32 = .ok (.iconst 0, 1) := by decide +kernel
theorem dX8_areMovements_33 : decode cX8_areMovements 33 = .ok (.istore_n 3, 1) := by decide +kernel
theorem dX8_areMovements_34 : decode cX8_areMovements 34 = .ok (.iinc 4 1, 3) := by decide +kernel
theorem dX8_areMovements_37 : decode cX8_areMovements 37 = .ok (.goto (-29), 3) := by decide +kernel
theorem dX8_areMovements_40 : decode cX8_areMovements 40 = .ok (.iload_n 3, 1) := by decide +kernel
theorem dX8_areMovements_41 : decode cX8_areMovements 41 = .ok (.ireturn, 1) := by decide +kernel
theorem dX8_next_0 : decode cX8_next 0 = .ok (.iconst 0, 1) := by decide +kernel
theorem dX8_next_1 : decode cX8_next 1 = .ok (.istore_n 1, 1) := by decide +kernel
theorem dX8_next_2 : decode cX8_next 2 = .ok (.iconst 1, 1) := by decide +kernel
theorem dX8_next_3 : decode cX8_next 3 = .ok (.istore_n 2, 1) := by decide +kernel
theorem dX8_next_4 : decode cX8_next 4 = .ok (.iload_n 2, 1) := by decide +kernel
theorem dX8_next_5 : decode cX8_next 5 = .ok (.aload_n 0, 1) := by decide +kernel
theorem dX8_next_6 : decode cX8_next 6 = .ok (.getfield 77, 3) := by decide +kernel
theorem dX8_next_9 : decode cX8_next 9 = .ok (.if_icmp .ge 31, 3) := by decide +kernel
theorem dX8_next_12 : decode cX8_next 12 = .ok (.aload_n 0, 1) := by decide +kernel
theorem dX8_next_13 : decode cX8_next 13 = .ok (.getfield 67, 3) := by decide +kernel
theorem dX8_next_16 : decode cX8_next 16 = .ok (.iload_n 2, 1) := by decide +kernel
theorem dX8_next_17 : decode cX8_next 17 = .ok (.laload, 1) := by decide +kernel
theorem dX8_next_18 : decode cX8_next 18 = .ok (.aload_n 0, 1) := by decide +kernel
theorem dX8_next_19 : decode cX8_next 19 = .ok (.getfield 67, 3) := by decide +kernel
theorem dX8_next_22 : decode cX8_next 22 = .ok (.iload_n 1, 1) := by decide +kernel
theorem dX8_next_23 : decode cX8_next 23 = .ok (.laload, 1) := by decide +kernel
theorem dX8_next_24 : decode cX8_next 24 = .ok (.lcmp, 1) := by decide +kernel
theorem dX8_next_25 : decode cX8_next 25 = .ok (.ifCond .le 7, 3) := by decide +kernel
theorem dX8_next_28 : decode cX8_next 28 = .ok (.iload_n 2, 1) := by decide +kernel
theorem dX8_next_29 : decode cX8_next 29 = .ok (.goto 4, 3) := by decide +kernel
theorem dX8_next_32 : decode cX8_next 32 = .ok (.iload_n 1, 1) := by decide +kernel
theorem dX8_next_33 : decode cX8_next 33 = .ok (.istore_n 1, 1) := by decide +kernel
theorem dX8_next_34 : decode cX8_next 34 = .ok (.iinc 2 1, 3) := by decide +kernel
theorem dX8_next_37 : decode cX8_next 37 = .ok (.goto (-33), 3) := by decide +kernel
theorem dX8_next_40 : decode cX8_next 40 = .ok (.aload_n 0, 1) := by decide +kernel
theorem dX8_next_41 : decode cX8_next 41 = .ok (.getfield 67, 3) := by decide +kernel
theorem dX8_next_44 : decode cX8_next 44 = .ok (.iload_n 1, 1) := by decide +kernel
theorem dX8_next_45 : decode cX8_next 45 = .ok (.ldc2_w 131, 3) := by decide +kernel
theorem dX8_next_48 : decode cX8_next 48 = .ok (.lastore, 1) := by decide +kernel
theorem dX8_next_49 : decode cX8_next 49 = .ok (.iload_n 1, 1) := by decide +kernel
theorem dX8_next_50 : decode cX8_next 50 = .ok (.ireturn, 1) := by decide +kernel
theorem dX8_spreads_0 : decode cX8_spreads 0 = .ok (.aload_n 0, 1) := by decide +kernel
theorem dX8_spreads_1 : decode cX8_spreads 1 = .ok (.lload 4, 2) := by decide +kernel
theorem dX8_spreads_3 : decode cX8_spreads 3 = .ok (.iload_n 3, 1) := by decide +kernel
theorem dX8_spreads_4 : decode cX8_spreads 4 = .ok (.invokevirtual 133, 3) := by decide +kernel
theorem dX8_spreads_7 : decode cX8_spreads 7 = .ok (.lstore 6, 2) := by decide +kernel
theorem dX8_spreads_9 : decode cX8_spreads 9 = .ok (.iload_n 2, 1) := by decide +kernel
theorem dX8_spreads_10 : decode cX8_spreads 10 = .ok (.istore 8, 2) := by decide +kernel
theorem dX8_spreads_12 : decode cX8_spreads 12 = .ok (.iconst 0, 1) := by decide +kernel
theorem dX8_spreads_13 : decode cX8_spreads 13 = .ok (.istore 9, 2) := by decide +kernel
theorem dX8_spreads_15 : decode cX8_spreads 15 = .ok (.iload 9, 2) := by decide +kernel
theorem dX8_spreads_17 : decode cX8_spreads 17 = .ok (.aload_n 0, 1) := by decide +kernel
theorem dX8_spreads_18 : decode cX8_spreads 18 = .ok (.getfield 77, 3) := by decide +kernel
theorem dX8_spreads_21 : decode cX8_spreads 21 = .ok (.if_icmp .ge 82, 3) := by decide +kernel
theorem dX8_spreads_24 : decode cX8_spreads 24 = .ok (.aload_n 0, 1) := by decide +kernel
theorem dX8_spreads_25 : decode cX8_spreads 25 = .ok (.getfield 67, 3) := by decide +kernel
theorem dX8_spreads_28 : decode cX8_spreads 28 = .ok (.iload 9, 2) := by decide +kernel
theorem dX8_spreads_30 : decode cX8_spreads 30 = .ok (.ldc2_w 131, 3) := by decide +kernel
theorem dX8_spreads_33 : decode cX8_spreads 33 = .ok (.lastore, 1) := by decide +kernel
theorem dX8_spreads_34 : decode cX8_spreads 34 = .ok (.lload 4, 2) := by decide +kernel
theorem dX8_spreads_36 : decode cX8_spreads 36 = .ok (.iload 9, 2) := by decide +kernel
theorem dX8_spreads_38 : decode cX8_spreads 38 = .ok (.invokestatic 123, 3) := by decide +kernel
theorem dX8_spreads_41 : decode cX8_spreads 41 = .ok (.ifCond .eq 56, 3) := by decide +kernel
theorem dX8_spreads_44 : decode cX8_spreads 44 = .ok (.iload_n 2, 1) := by decide +kernel
theorem dX8_spreads_45 : decode cX8_spreads 45 = .ok (.i2l, 1) := by decide +kernel
theorem dX8_spreads_46 : decode cX8_spreads 46 = .ok (.aload_n 0, 1) := by decide +kernel
theorem dX8_spreads_47 : decode cX8_spreads 47 = .ok (.iload 9, 2) := by decide +kernel
theorem dX8_spreads_49 : decode cX8_spreads 49 = .ok (.iload_n 3, 1) := by decide +kernel
theorem dX8_spreads_50 : decode cX8_spreads 50 = .ok (.invokevirtual 127, 3) := by decide +kernel
theorem dX8_spreads_53 : decode cX8_spreads 53 = .ok (.lmul, 1) := by decide +kernel
theorem dX8_spreads_54 : decode cX8_spreads 54 = .ok (.lstore 10, 2) := by decide +kernel
theorem dX8_spreads_56 : decode cX8_spreads 56 = .ok (.aload_n 0, 1) := by decide +kernel
theorem dX8_spreads_57 : decode cX8_spreads 57 = .ok (.getfield 33, 3) := by decide +kernel
theorem dX8_spreads_60 : decode cX8_spreads 60 = .ok (.bipush 60, 2) := by decide +kernel
theorem dX8_spreads_62 : decode cX8_spreads 62 = .ok (.iload_n 1, 1) := by decide +kernel
theorem dX8_spreads_63 : decode cX8_spreads 63 = .ok (.imul, 1) := by decide +kernel
theorem dX8_spreads_64 : decode cX8_spreads 64 = .ok (.iload 9, 2) := by decide +kernel
theorem dX8_spreads_66 : decode cX8_spreads 66 = .ok (.iadd, 1) := by decide +kernel
theorem dX8_spreads_67 : decode cX8_spreads 67 = .ok (.lload 10, 2) := by decide +kernel
theorem dX8_spreads_69 : decode cX8_spreads 69 = .ok (.lload 6, 2) := by decide +kernel
theorem dX8_spreads_71 : decode cX8_spreads 71 = .ok (.ldiv, 1) := by decide +kernel
theorem dX8_spreads_72 : decode cX8_spreads 72 = .ok (.l2i, 1) := by decide +kernel
theorem dX8_spreads_73 : decode cX8_spreads 73 = .ok (.iastore, 1) := by decide +kernel
theorem dX8_spreads_74 : decode cX8_spreads 74 = .ok (.aload_n 0, 1) := by decide +kernel
theorem dX8_spreads_75 : decode cX8_spreads 75 = .ok (.getfield 67, 3) := by decide +kernel
theorem dX8_spreads_78 : decode cX8_spreads 78 = .ok (.iload 9, 2) := by decide +kernel
theorem dX8_spreads_80 : decode cX8_spreads 80 = .ok (.lload 10, 2) := by decide +kernel
theorem dX8_spreads_82 : decode cX8_spreads 82 = .ok (.lload 6, 2) := by decide +kernel
theorem dX8_spreads_84 : decode cX8_spreads 84 = .ok (.lrem, 1) := by decide +kernel
theorem dX8_spreads_85 : decode cX8_spreads 85 = .ok (.lastore, 1) := by decide +kernel
theorem dX8_spreads_86 : decode cX8_spreads 86 = .ok (.iload 8, 2) := by decide +kernel
theorem dX8_spreads_88 : decode cX8_spreads 88 = .ok (.lload 10, 2) := by decide +kernel
theorem dX8_spreads_90 : decode cX8_spreads 90 = .ok (.lload 6, 2) := by decide +kernel
theorem dX8_spreads_92 : decode cX8_spreads 92 = .ok (.ldiv, 1) := by decide +kernel
theorem dX8_spreads_93 : decode cX8_spreads 93 = .ok (.l2i, 1) := by decide +kernel
theorem dX8_spreads_94 : decode cX8_spreads 94 = .ok (.isub, 1) := by decide +kernel
theorem dX8_spreads_95 : decode cX8_spreads 95 = .ok (.istore 8, 2) := by decide +kernel
theorem dX8_spreads_97 : decode cX8_spreads 97 = .ok (.iinc 9 1, 3) := by decide +kernel
theorem dX8_spreads_100 : decode cX8_spreads 100 = .ok (.goto (-85), 3) := by decide +kernel
theorem dX8_spreads_103 : decode cX8_spreads 103 = .ok (.iconst 0, 1) := by decide +kernel
theorem dX8_spreads_104 : decode cX8_spreads 104 = .ok (.istore 9, 2) := by decide +kernel
theorem dX8_spreads_106 : decode cX8_spreads 106 = .ok (.iload 9, 2) := by decide +kernel
theorem dX8_spreads_108 : decode cX8_spreads 108 = .ok (.iload 8, 2) := by decide +kernel
theorem dX8_spreads_110 : decode cX8_spreads 110 = .ok (.if_icmp .ge 27, 3) := by decide +kernel
theorem dX8_spreads_113 : decode cX8_spreads 113 = .ok (.aload_n 0, 1) := by decide +kernel
theorem dX8_spreads_114 : decode cX8_spreads 114 = .ok (.getfield 33, 3) := by decide +kernel
theorem dX8_spreads_117 : decode cX8_spreads 117 = .ok (.bipush 60, 2) := by decide +kernel
theorem dX8_spreads_119 : decode cX8_spreads 119 = .ok (.iload_n 1, 1) := by decide +kernel
theorem dX8_spreads_120 : decode cX8_spreads 120 = .ok (.imul, 1) := by decide +kernel
theorem dX8_spreads_121 : decode cX8_spreads 121 = .ok (.aload_n 0, 1) := by decide +kernel
theorem dX8_spreads_122 : decode cX8_spreads 122 = .ok (.invokevirtual 137, 3) := by decide +kernel
theorem dX8_spreads_125 : decode cX8_spreads 125 = .ok (.iadd, 1) := by decide +kernel
theorem dX8_spreads_126 : decode cX8_spreads 126 = .ok (.dup2, 1) := by decide +kernel
theorem dX8_spreads_127 : decode cX8_spreads 127 = .ok (.iaload, 1) := by decide +kernel
theorem dX8_spreads_128 : decode cX8_spreads 128 = .ok (.iconst 1, 1) := by decide +kernel
theorem dX8_spreads_129 : decode cX8_spreads 129 = .ok (.iadd, 1) := by decide +kernel
theorem dX8_spreads_130 : decode cX8_spreads 130 = .ok (.iastore, 1) := by decide +kernel
theorem dX8_spreads_131 : decode cX8_spreads 131 = .ok (.iinc 9 1, 3) := by decide +kernel
theorem dX8_spreads_134 : decode cX8_spreads 134 = .ok (.goto (-28), 3) := by decide +kernel
theorem dX8_spreads_137 : decode cX8_spreads 137 = .ok (.return_, 1) := by decide +kernel
theorem dX8_land_0 : decode cX8_land 0 = .ok (.iload_n 1, 1) := by decide +kernel
theorem dX8_land_1 : decode cX8_land 1 = .ok (.invokestatic 98, 3) := by decide +kernel
theorem dX8_land_4 : decode cX8_land 4 = .ok (.ifCond .eq 29, 3) := by decide +kernel
theorem dX8_land_7 : decode cX8_land 7 = .ok (.iload_n 2, 1) := by decide +kernel
theorem dX8_land_8 : decode cX8_land 8 = .ok (.iconst 1, 1) := by decide +kernel
theorem dX8_land_9 : decode cX8_land 9 = .ok (.ldc 104, 2) := by decide +kernel
theorem dX8_land_11 : decode cX8_land 11 = .ok (.invokestatic 73, 3) := by decide +kernel
theorem dX8_land_14 : decode cX8_land 14 = .ok (.ifCond .eq 19, 3) := by decide +kernel
theorem dX8_land_17 : decode cX8_land 17 = .ok (.iload_n 3, 1) := by decide +kernel
theorem dX8_land_18 : decode cX8_land 18 = .ok (.iconst 0, 1) := by decide +kernel
theorem dX8_land_19 : decode cX8_land 19 = .ok (.iconst 2, 1) := by decide +kernel
theorem dX8_land_20 : decode cX8_land 20 = .ok (.invokestatic 73, 3) := by decide +kernel
theorem dX8_land_23 : decode cX8_land 23 = .ok (.ifCond .eq 10, 3) := by decide +kernel
theorem dX8_land_26 : decode cX8_land 26 = .ok (.lload 4, 2) := by decide +kernel
theorem dX8_land_28 : decode cX8_land 28 = .ok (.lconst 0, 1) := by decide +kernel
theorem dX8_land_29 : decode cX8_land 29 = .ok (.lcmp, 1) := by decide +kernel
theorem dX8_land_30 : decode cX8_land 30 = .ok (.ifCond .ne 7, 3) := by decide +kernel
theorem dX8_land_33 : decode cX8_land 33 = .ok (.iconst 1, 1) := by decide +kernel
theorem dX8_land_34 : decode cX8_land 34 = .ok (.goto 51, 3) := by decide +kernel
theorem dX8_land_37 : decode cX8_land 37 = .ok (.aload_n 0, 1) := by decide +kernel
theorem dX8_land_38 : decode cX8_land 38 = .ok (.lload 4, 2) := by decide +kernel
theorem dX8_land_40 : decode cX8_land 40 = .ok (.invokevirtual 141, 3) := by decide +kernel
theorem dX8_land_43 : decode cX8_land 43 = .ok (.ifCond .ne 7, 3) := by decide +kernel
theorem dX8_land_46 : decode cX8_land 46 = .ok (.iconst 2, 1) := by decide +kernel
theorem dX8_land_47 : decode cX8_land 47 = .ok (.goto 38, 3) := by decide +kernel
theorem dX8_land_50 : decode cX8_land 50 = .ok (.aload_n 0, 1) := by decide +kernel
theorem dX8_land_51 : decode cX8_land 51 = .ok (.iload_n 1, 1) := by decide +kernel
theorem dX8_land_52 : decode cX8_land 52 = .ok (.invokevirtual 105, 3) := by decide +kernel
theorem dX8_land_55 : decode cX8_land 55 = .ok (.ifCond .ne 25, 3) := by decide +kernel
theorem dX8_land_58 : decode cX8_land 58 = .ok (.aload_n 0, 1) := by decide +kernel
theorem dX8_land_59 : decode cX8_land 59 = .ok (.lload 4, 2) := by decide +kernel
theorem dX8_land_61 : decode cX8_land 61 = .ok (.iload_n 1, 1) := by decide +kernel
theorem dX8_land_62 : decode cX8_land 62 = .ok (.invokevirtual 145, 3) := by decide +kernel
theorem dX8_land_65 : decode cX8_land 65 = .ok (.ifCond .eq 15, 3) := by decide +kernel
theorem dX8_land_68 : decode cX8_land 68 = .ok (.aload_n 0, 1) := by decide +kernel
theorem dX8_land_69 : decode cX8_land 69 = .ok (.lload 4, 2) := by decide +kernel
theorem dX8_land_71 : decode cX8_land 71 = .ok (.iload_n 3, 1) := by decide +kernel
theorem dX8_land_72 : decode cX8_land 72 = .ok (.invokevirtual 133, 3) := by decide +kernel
theorem dX8_land_75 : decode cX8_land 75 = .ok (.lconst 0, 1) := by decide +kernel
theorem dX8_land_76 : decode cX8_land 76 = .ok (.lcmp, 1) := by decide +kernel
theorem dX8_land_77 : decode cX8_land 77 = .ok (.ifCond .ne 7, 3) := by decide +kernel
theorem dX8_land_80 : decode cX8_land 80 = .ok (.iconst 3, 1) := by decide +kernel
theorem dX8_land_81 : decode cX8_land 81 = .ok (.goto 4, 3) := by decide +kernel
theorem dX8_land_84 : decode cX8_land 84 = .ok (.iconst 0, 1) := by decide +kernel
theorem dX8_land_85 : decode cX8_land 85 = .ok (.istore 6, 2) := by decide +kernel
theorem dX8_land_87 : decode cX8_land 87 = .ok (.aload_n 0, 1) := by decide +kernel
theorem dX8_land_88 : decode cX8_land 88 = .ok (.iload 6, 2) := by decide +kernel
theorem dX8_land_90 : decode cX8_land 90 = .ok (.invokevirtual 112, 3) := by decide +kernel
theorem dX8_land_93 : decode cX8_land 93 = .ok (.ifCond .ne 5, 3) := by decide +kernel
theorem dX8_land_96 : decode cX8_land 96 = .ok (.iconst 0, 1) := by decide +kernel
theorem dX8_land_97 : decode cX8_land 97 = .ok (.ireturn, 1) := by decide +kernel
theorem dX8_land_98 : decode cX8_land 98 = .ok (.aload_n 0, 1) := by decide +kernel
theorem dX8_land_99 : decode cX8_land 99 = .ok (.iconst 3, 1) := by decide +kernel
theorem dX8_land_100 : decode cX8_land 100 = .ok (.iload_n 1, 1) := by decide +kernel
theorem dX8_land_101 : decode cX8_land 101 = .ok (.iconst (-1), 1) := by decide +kernel
theorem dX8_land_102 : decode cX8_land 102 = .ok (.iconst 0, 1) := by decide +kernel
theorem dX8_land_103 : decode cX8_land 103 = .ok (.iload_n 2, 1) := by decide +kernel
theorem dX8_land_104 : decode cX8_land 104 = .ok (.invokevirtual 115, 3) := by decide +kernel
theorem dX8_land_107 : decode cX8_land 107 = .ok (.istore 7, 2) := by decide +kernel
theorem dX8_land_109 : decode cX8_land 109 = .ok (.aload_n 0, 1) := by decide +kernel
theorem dX8_land_110 : decode cX8_land 110 = .ok (.getfield 29, 3) := by decide +kernel
theorem dX8_land_113 : decode cX8_land 113 = .ok (.aload_n 0, 1) := by decide +kernel
theorem dX8_land_114 : decode cX8_land 114 = .ok (.getfield 77, 3) := by decide +kernel
theorem dX8_land_117 : decode cX8_land 117 = .ok (.iconst 1, 1) := by decide +kernel
theorem dX8_land_118 : decode cX8_land 118 = .ok (.isub, 1) := by decide +kernel
theorem dX8_land_119 : decode cX8_land 119 = .ok (.lload 4, 2) := by decide +kernel
theorem dX8_land_121 : decode cX8_land 121 = .ok (.lastore, 1) := by decide +kernel
theorem dX8_land_122 : decode cX8_land 122 = .ok (.aload_n 0, 1) := by decide +kernel
theorem dX8_land_123 : decode cX8_land 123 = .ok (.aload_n 0, 1) := by decide +kernel
theorem dX8_land_124 : decode cX8_land 124 = .ok (.getfield 77, 3) := by decide +kernel
theorem dX8_land_127 : decode cX8_land 127 = .ok (.iconst 1, 1) := by decide +kernel
theorem dX8_land_128 : decode cX8_land 128 = .ok (.isub, 1) := by decide +kernel
theorem dX8_land_129 : decode cX8_land 129 = .ok (.iload_n 2, 1) := by decide +kernel
theorem dX8_land_130 : decode cX8_land 130 = .ok (.iload_n 3, 1) := by decide +kernel
theorem dX8_land_131 : decode cX8_land 131 = .ok (.lload 4, 2) := by decide +kernel
theorem dX8_land_133 : decode cX8_land 133 = .ok (.invokevirtual 148, 3) := by decide +kernel
theorem dX8_land_136 : decode cX8_land 136 = .ok (.aload_n 0, 1) := by decide +kernel
theorem dX8_land_137 : decode cX8_land 137 = .ok (.getfield 77, 3) := by decide +kernel
theorem dX8_land_140 : decode cX8_land 140 = .ok (.iconst 1, 1) := by decide +kernel
theorem dX8_land_141 : decode cX8_land 141 = .ok (.isub, 1) := by decide +kernel
theorem dX8_land_142 : decode cX8_land 142 = .ok (.ireturn, 1) := by decide +kernel
theorem dX8_isLanded_0 : decode cX8_isLanded 0 = .ok (.iconst 0, 1) := by decide +kernel
theorem dX8_isLanded_1 : decode cX8_isLanded 1 = .ok (.istore_n 2, 1) := by decide +kernel
theorem dX8_isLanded_2 : decode cX8_isLanded 2 = .ok (.iconst 0, 1) := by decide +kernel
theorem dX8_isLanded_3 : decode cX8_isLanded 3 = .ok (.istore_n 3, 1) := by decide +kernel
theorem dX8_isLanded_4 : decode cX8_isLanded 4 = .ok (.iload_n 3, 1) := by decide +kernel
theorem dX8_isLanded_5 : decode cX8_isLanded 5 = .ok (.aload_n 0, 1) := by decide +kernel
theorem dX8_isLanded_6 : decode cX8_isLanded 6 = .ok (.getfield 77, 3) := by decide +kernel
theorem dX8_isLanded_9 : decode cX8_isLanded 9 = .ok (.if_icmp .ge 47, 3) := by decide +kernel
theorem dX8_isLanded_12 : decode cX8_isLanded 12 = .ok (.iload_n 2, 1) := by decide +kernel
theorem dX8_isLanded_13 : decode cX8_isLanded 13 = .ok (.ifCond .ne 31, 3) := by decide +kernel
theorem dX8_isLanded_16 : decode cX8_isLanded 16 = .ok (.aload_n 0, 1) := by decide +kernel
theorem dX8_isLanded_17 : decode cX8_isLanded 17 = .ok (.getfield 7, 3) := by decide +kernel
theorem dX8_isLanded_20 : decode cX8_isLanded 20 = .ok (.iload_n 3, 1) := by decide +kernel
theorem dX8_isLanded_21 : decode cX8_isLanded 21 = .ok (.iaload, 1) := by decide +kernel
theorem dX8_isLanded_22 : decode cX8_isLanded 22 = .ok (.iconst 3, 1) := by decide +kernel
theorem dX8_isLanded_23 : decode cX8_isLanded 23 = .ok (.if_icmp .ne 25, 3) := by decide +kernel
theorem dX8_isLanded_26 : decode cX8_isLanded 26 = .ok (.aload_n 0, 1) := by decide +kernel
theorem dX8_isLanded_27 : decode cX8_isLanded 27 = .ok (.getfield 25, 3) := by decide +kernel
theorem dX8_isLanded_30 : decode cX8_isLanded 30 = .ok (.iload_n 3, 1) := by decide +kernel
theorem dX8_isLanded_31 : decode cX8_isLanded 31 = .ok (.baload, 1) := by decide +kernel
theorem dX8_isLanded_32 : decode cX8_isLanded 32 = .ok (.ifCond .ne 16, 3) := by decide +kernel
theorem dX8_isLanded_35 : decode cX8_isLanded 35 = .ok (.aload_n 0, 1) := by decide +kernel
theorem dX8_isLanded_36 : decode cX8_isLanded 36 = .ok (.iload_n 3, 1) := by decide +kernel
theorem dX8_isLanded_37 : decode cX8_isLanded 37 = .ok (.iload_n 1, 1) := by decide +kernel
theorem dX8_isLanded_38 : decode cX8_isLanded 38 = .ok (.invokevirtual 152, 3) := by decide +kernel
theorem dX8_isLanded_41 : decode cX8_isLanded 41 = .ok (.ifCond .eq 7, 3) := by decide +kernel
theorem dX8_isLanded_44 : decode cX8_isLanded 44 = .ok (.iconst 1, 1) := by decide +kernel
theorem dX8_isLanded_45 : decode cX8_isLanded 45 = .ok (.goto 4, 3) := by decide +kernel
theorem dX8_isLanded_48 : decode cX8_isLanded 48 = .ok (.iconst 0, 1) := by decide +kernel
theorem dX8_isLanded_49 : decode cX8_isLanded 49 = .ok (.istore_n 2, 1) := by decide +kernel
theorem dX8_isLanded_50 : decode cX8_isLanded 50 = .ok (.iinc 3 1, 3) := by decide +kernel
theorem dX8_isLanded_53 : decode cX8_isLanded 53 = .ok (.goto (-49), 3) := by decide +kernel
theorem dX8_isLanded_56 : decode cX8_isLanded 56 = .ok (.iload_n 2, 1) := by decide +kernel
theorem dX8_isLanded_57 : decode cX8_isLanded 57 = .ok (.ireturn, 1) := by decide +kernel
theorem dX8_isSpreadOver_0 : decode cX8_isSpreadOver 0 = .ok (.aload_n 0, 1) := by decide +kernel
theorem dX8_isSpreadOver_1 : decode cX8_isSpreadOver 1 = .ok (.getfield 29, 3) := by decide +kernel
theorem dX8_isSpreadOver_4 : decode cX8_isSpreadOver 4 = .ok (.iload_n 1, 1) := by decide +kernel
theorem dX8_isSpreadOver_5 : decode cX8_isSpreadOver 5 = .ok (.laload, 1) := by decide +kernel
theorem dX8_isSpreadOver_6 : decode cX8_isSpreadOver 6 = .ok (.iload_n 2, 1) := by decide +kernel
theorem dX8_isSpreadOver_7 : decode cX8_isSpreadOver 7 = .ok (.invokestatic 123, 3) := by decide +kernel
theorem dX8_isSpreadOver_10 : decode cX8_isSpreadOver 10 = .ok (.ireturn, 1) := by decide +kernel
theorem dX8_cancel_0 : decode cX8_cancel 0 = .ok (.aload_n 0, 1) := by decide +kernel
theorem dX8_cancel_1 : decode cX8_cancel 1 = .ok (.aload_n 0, 1) := by decide +kernel
theorem dX8_cancel_2 : decode cX8_cancel 2 = .ok (.iload_n 1, 1) := by decide +kernel
theorem dX8_cancel_3 : decode cX8_cancel 3 = .ok (.invokevirtual 155, 3) := by decide +kernel
theorem dX8_cancel_6 : decode cX8_cancel 6 = .ok (.ifCond .ne 7, 3) := by decide +kernel
theorem dX8_cancel_9 : decode cX8_cancel 9 = .ok (.iconst 1, 1) := by decide +kernel
theorem dX8_cancel_10 : decode cX8_cancel 10 = .ok (.goto 38, 3) := by decide +kernel
theorem dX8_cancel_13 : decode cX8_cancel 13 = .ok (.aload_n 0, 1) := by decide +kernel
theorem dX8_cancel_14 : decode cX8_cancel 14 = .ok (.getfield 25, 3) := by decide +kernel
theorem dX8_cancel_17 : decode cX8_cancel 17 = .ok (.iload_n 1, 1) := by decide +kernel
theorem dX8_cancel_18 : decode cX8_cancel 18 = .ok (.baload, 1) := by decide +kernel
theorem dX8_cancel_19 : decode cX8_cancel 19 = .ok (.ifCond .ne 24, 3) := by decide +kernel
theorem dX8_cancel_22 : decode cX8_cancel 22 = .ok (.aload_n 0, 1) := by decide +kernel
theorem dX8_cancel_23 : decode cX8_cancel 23 = .ok (.getfield 13, 3) := by decide +kernel
theorem dX8_cancel_26 : decode cX8_cancel 26 = .ok (.iload_n 1, 1) := by decide +kernel
theorem dX8_cancel_27 : decode cX8_cancel 27 = .ok (.iaload, 1) := by decide +kernel
theorem dX8_cancel_28 : decode cX8_cancel 28 = .ok (.aload_n 0, 1) := by decide +kernel
theorem dX8_cancel_29 : decode cX8_cancel 29 = .ok (.getfield 36, 3) := by decide +kernel
theorem dX8_cancel_32 : decode cX8_cancel 32 = .ok (.if_icmp .le 11, 3) := by decide +kernel
theorem dX8_cancel_35 : decode cX8_cancel 35 = .ok (.aload_n 0, 1) := by decide +kernel
theorem dX8_cancel_36 : decode cX8_cancel 36 = .ok (.iload_n 1, 1) := by decide +kernel
theorem dX8_cancel_37 : decode cX8_cancel 37 = .ok (.invokevirtual 158, 3) := by decide +kernel
theorem dX8_cancel_40 : decode cX8_cancel 40 = .ok (.ifCond .eq 7, 3) := by decide +kernel
theorem dX8_cancel_43 : decode cX8_cancel 43 = .ok (.iconst 2, 1) := by decide +kernel
theorem dX8_cancel_44 : decode cX8_cancel 44 = .ok (.goto 4, 3) := by decide +kernel
theorem dX8_cancel_47 : decode cX8_cancel 47 = .ok (.iconst 0, 1) := by decide +kernel
theorem dX8_cancel_48 : decode cX8_cancel 48 = .ok (.invokevirtual 112, 3) := by decide +kernel
theorem dX8_cancel_51 : decode cX8_cancel 51 = .ok (.ifCond .ne 5, 3) := by decide +kernel
theorem dX8_cancel_54 : decode cX8_cancel 54 = .ok (.iconst 0, 1) := by decide +kernel
theorem dX8_cancel_55 : decode cX8_cancel 55 = .ok (.ireturn, 1) := by decide +kernel
theorem dX8_cancel_56 : decode cX8_cancel 56 = .ok (.aload_n 0, 1) := by decide +kernel
theorem dX8_cancel_57 : decode cX8_cancel 57 = .ok (.getfield 25, 3) := by decide +kernel
theorem dX8_cancel_60 : decode cX8_cancel 60 = .ok (.iload_n 1, 1) := by decide +kernel
theorem dX8_cancel_61 : decode cX8_cancel 61 = .ok (.iconst 1, 1) := by decide +kernel
theorem dX8_cancel_62 : decode cX8_cancel 62 = .ok (.bastore, 1) := by decide +kernel
theorem dX8_cancel_63 : decode cX8_cancel 63 = .ok (.aload_n 0, 1) := by decide +kernel
theorem dX8_cancel_64 : decode cX8_cancel 64 = .ok (.aload_n 0, 1) := by decide +kernel
theorem dX8_cancel_65 : decode cX8_cancel 65 = .ok (.aload_n 0, 1) := by decide +kernel
theorem dX8_cancel_66 : decode cX8_cancel 66 = .ok (.getfield 16, 3) := by decide +kernel
theorem dX8_cancel_69 : decode cX8_cancel 69 = .ok (.iload_n 1, 1) := by decide +kernel
theorem dX8_cancel_70 : decode cX8_cancel 70 = .ok (.iaload, 1) := by decide +kernel
theorem dX8_cancel_71 : decode cX8_cancel 71 = .ok (.invokevirtual 94, 3) := by decide +kernel
theorem dX8_cancel_74 : decode cX8_cancel 74 = .ok (.ifCond .eq 7, 3) := by decide +kernel
theorem dX8_cancel_77 : decode cX8_cancel 77 = .ok (.iconst 0, 1) := by decide +kernel
theorem dX8_cancel_78 : decode cX8_cancel 78 = .ok (.goto 4, 3) := by decide +kernel
theorem dX8_cancel_81 : decode cX8_cancel 81 = .ok (.iconst 2, 1) := by decide +kernel
theorem dX8_cancel_82 : decode cX8_cancel 82 = .ok (.invokevirtual 112, 3) := by decide +kernel
theorem dX8_cancel_85 : decode cX8_cancel 85 = .ok (.ifCond .ne 12, 3) := by decide +kernel
theorem dX8_cancel_88 : decode cX8_cancel 88 = .ok (.aload_n 0, 1) := by decide +kernel
theorem dX8_cancel_89 : decode cX8_cancel 89 = .ok (.getfield 25, 3) := by decide +kernel
theorem dX8_cancel_92 : decode cX8_cancel 92 = .ok (.iload_n 1, 1) := by decide +kernel
theorem dX8_cancel_93 : decode cX8_cancel 93 = .ok (.iconst 0, 1) := by decide +kernel
theorem dX8_cancel_94 : decode cX8_cancel 94 = .ok (.bastore, 1) := by decide +kernel
theorem dX8_cancel_95 : decode cX8_cancel 95 = .ok (.iconst 0, 1) := by decide +kernel
theorem dX8_cancel_96 : decode cX8_cancel 96 = .ok (.ireturn, 1) := by decide +kernel
theorem dX8_cancel_97 : decode cX8_cancel 97 = .ok (.aload_n 0, 1) := by decide +kernel
theorem dX8_cancel_98 : decode cX8_cancel 98 = .ok (.getfield 80, 3) := by decide +kernel
theorem dX8_cancel_101 : decode cX8_cancel 101 = .ok (.ireturn, 1) := by decide +kernel
theorem dX8_close_0 : decode cX8_close 0 = .ok (.aload_n 0, 1) := by decide +kernel
theorem dX8_close_1 : decode cX8_close 1 = .ok (.iload_n 1, 1) := by decide +kernel
theorem dX8_close_2 : decode cX8_close 2 = .ok (.invokestatic 98, 3) := by decide +kernel
theorem dX8_close_5 : decode cX8_close 5 = .ok (.ifCond .ne 7, 3) := by decide +kernel
theorem dX8_close_8 : decode cX8_close 8 = .ok (.iconst 1, 1) := by decide +kernel
theorem dX8_close_9 : decode cX8_close 9 = .ok (.goto 16, 3) := by decide +kernel
theorem dX8_close_12 : decode cX8_close 12 = .ok (.iload_n 1, 1) := by decide +kernel
theorem dX8_close_13 : decode cX8_close 13 = .ok (.aload_n 0, 1) := by decide +kernel
theorem dX8_close_14 : decode cX8_close 14 = .ok (.getfield 36, 3) := by decide +kernel
theorem dX8_close_17 : decode cX8_close 17 = .ok (.if_icmp .gt 7, 3) := by decide +kernel
theorem dX8_close_20 : decode cX8_close 20 = .ok (.iconst 2, 1) := by decide +kernel
theorem dX8_close_21 : decode cX8_close 21 = .ok (.goto 4, 3) := by decide +kernel
theorem dX8_close_24 : decode cX8_close 24 = .ok (.iconst 0, 1) := by decide +kernel
theorem dX8_close_25 : decode cX8_close 25 = .ok (.invokevirtual 112, 3) := by decide +kernel
theorem dX8_close_28 : decode cX8_close 28 = .ok (.ifCond .ne 5, 3) := by decide +kernel
theorem dX8_close_31 : decode cX8_close 31 = .ok (.iconst 0, 1) := by decide +kernel
theorem dX8_close_32 : decode cX8_close 32 = .ok (.ireturn, 1) := by decide +kernel
theorem dX8_close_33 : decode cX8_close 33 = .ok (.aload_n 0, 1) := by decide +kernel
theorem dX8_close_34 : decode cX8_close 34 = .ok (.getfield 36, 3) := by decide +kernel
theorem dX8_close_37 : decode cX8_close 37 = .ok (.istore_n 2, 1) := by decide +kernel
theorem dX8_close_38 : decode cX8_close 38 = .ok (.aload_n 0, 1) := by decide +kernel
theorem dX8_close_39 : decode cX8_close 39 = .ok (.iload_n 1, 1) := by decide +kernel
theorem dX8_close_40 : decode cX8_close 40 = .ok (.putfield 36, 3) := by decide +kernel
theorem dX8_close_43 : decode cX8_close 43 = .ok (.iload_n 2, 1) := by decide +kernel
theorem dX8_close_44 : decode cX8_close 44 = .ok (.ireturn, 1) := by decide +kernel
theorem dX8_setWeight_0 : decode cX8_setWeight 0 = .ok (.aload_n 0, 1) := by decide +kernel
theorem dX8_setWeight_1 : decode cX8_setWeight 1 = .ok (.iload_n 1, 1) := by decide +kernel
theorem dX8_setWeight_2 : decode cX8_setWeight 2 = .ok (.invokestatic 101, 3) := by decide +kernel
theorem dX8_setWeight_5 : decode cX8_setWeight 5 = .ok (.ifCond .eq 17, 3) := by decide +kernel
theorem dX8_setWeight_8 : decode cX8_setWeight 8 = .ok (.iload_n 2, 1) := by decide +kernel
theorem dX8_setWeight_9 : decode cX8_setWeight 9 = .ok (.iconst 1, 1) := by decide +kernel
theorem dX8_setWeight_10 : decode cX8_setWeight 10 = .ok (.bipush 100, 2) := by decide +kernel
theorem dX8_setWeight_12 : decode cX8_setWeight 12 = .ok (.invokestatic 73, 3) := by decide +kernel
theorem dX8_setWeight_15 : decode cX8_setWeight 15 = .ok (.ifCond .eq 7, 3) := by decide +kernel
theorem dX8_setWeight_18 : decode cX8_setWeight 18 = .ok (.iconst 0, 1) := by decide +kernel
theorem dX8_setWeight_19 : decode cX8_setWeight 19 = .ok (.goto 4, 3) := by decide +kernel
theorem dX8_setWeight_22 : decode cX8_setWeight 22 = .ok (.iconst 1, 1) := by decide +kernel
theorem dX8_setWeight_23 : decode cX8_setWeight 23 = .ok (.invokevirtual 112, 3) := by decide +kernel
theorem dX8_setWeight_26 : decode cX8_setWeight 26 = .ok (.ifCond .ne 5, 3) := by decide +kernel
theorem dX8_setWeight_29 : decode cX8_setWeight 29 = .ok (.iconst 0, 1) := by decide +kernel
theorem dX8_setWeight_30 : decode cX8_setWeight 30 = .ok (.ireturn, 1) := by decide +kernel
theorem dX8_setWeight_31 : decode cX8_setWeight 31 = .ok (.aload_n 0, 1) := by decide +kernel
theorem dX8_setWeight_32 : decode cX8_setWeight 32 = .ok (.getfield 40, 3) := by decide +kernel
theorem dX8_setWeight_35 : decode cX8_setWeight 35 = .ok (.iload_n 1, 1) := by decide +kernel
theorem dX8_setWeight_36 : decode cX8_setWeight 36 = .ok (.iaload, 1) := by decide +kernel
theorem dX8_setWeight_37 : decode cX8_setWeight 37 = .ok (.istore_n 3, 1) := by decide +kernel
theorem dX8_setWeight_38 : decode cX8_setWeight 38 = .ok (.aload_n 0, 1) := by decide +kernel
theorem dX8_setWeight_39 : decode cX8_setWeight 39 = .ok (.getfield 40, 3) := by decide +kernel
theorem dX8_setWeight_42 : decode cX8_setWeight 42 = .ok (.iload_n 1, 1) := by decide +kernel
theorem dX8_setWeight_43 : decode cX8_setWeight 43 = .ok (.iload_n 2, 1) := by decide +kernel
theorem dX8_setWeight_44 : decode cX8_setWeight 44 = .ok (.iastore, 1) := by decide +kernel
theorem dX8_setWeight_45 : decode cX8_setWeight 45 = .ok (.iload_n 3, 1) := by decide +kernel
theorem dX8_setWeight_46 : decode cX8_setWeight 46 = .ok (.ireturn, 1) := by decide +kernel
theorem dX8_movements_0 : decode cX8_movements 0 = .ok (.aload_n 0, 1) := by decide +kernel
theorem dX8_movements_1 : decode cX8_movements 1 = .ok (.iconst 0, 1) := by decide +kernel
theorem dX8_movements_2 : decode cX8_movements 2 = .ok (.putfield 70, 3) := by decide +kernel
theorem dX8_movements_5 : decode cX8_movements 5 = .ok (.aload_n 0, 1) := by decide +kernel
theorem dX8_movements_6 : decode cX8_movements 6 = .ok (.getfield 77, 3) := by decide +kernel
theorem dX8_movements_9 : decode cX8_movements 9 = .ok (.ireturn, 1) := by decide +kernel
theorem dX8_kindOf_0 : decode cX8_kindOf 0 = .ok (.aload_n 0, 1) := by decide +kernel
theorem dX8_kindOf_1 : decode cX8_kindOf 1 = .ok (.aload_n 0, 1) := by decide +kernel
theorem dX8_kindOf_2 : decode cX8_kindOf 2 = .ok (.iload_n 1, 1) := by decide +kernel
theorem dX8_kindOf_3 : decode cX8_kindOf 3 = .ok (.invokevirtual 155, 3) := by decide +kernel
theorem dX8_kindOf_6 : decode cX8_kindOf 6 = .ok (.ifCond .eq 7, 3) := by decide +kernel
theorem dX8_kindOf_9 : decode cX8_kindOf 9 = .ok (.iconst 0, 1) := by decide +kernel
theorem dX8_kindOf_10 : decode cX8_kindOf 10 = .ok (.goto 4, 3) := by decide +kernel
theorem dX8_kindOf_13 : decode cX8_kindOf 13 = .ok (.iconst 1, 1) := by decide +kernel
theorem dX8_kindOf_14 : decode cX8_kindOf 14 = .ok (.invokevirtual 112, 3) := by decide +kernel
theorem dX8_kindOf_17 : decode cX8_kindOf 17 = .ok (.ifCond .eq 12, 3) := by decide +kernel
theorem dX8_kindOf_20 : decode cX8_kindOf 20 = .ok (.aload_n 0, 1) := by decide +kernel
theorem dX8_kindOf_21 : decode cX8_kindOf 21 = .ok (.getfield 7, 3) := by decide +kernel
theorem dX8_kindOf_24 : decode cX8_kindOf 24 = .ok (.iload_n 1, 1) := by decide +kernel
theorem dX8_kindOf_25 : decode cX8_kindOf 25 = .ok (.iaload, 1) := by decide +kernel
theorem dX8_kindOf_26 : decode cX8_kindOf 26 = .ok (.goto 4, 3) := by decide +kernel
theorem dX8_kindOf_29 : decode cX8_kindOf 29 = .ok (.iconst 0, 1) := by decide +kernel
theorem dX8_kindOf_30 : decode cX8_kindOf 30 = .ok (.ireturn, 1) := by decide +kernel
theorem dX8_dayOf_0 : decode cX8_dayOf 0 = .ok (.aload_n 0, 1) := by decide +kernel
theorem dX8_dayOf_1 : decode cX8_dayOf 1 = .ok (.aload_n 0, 1) := by decide +kernel
theorem dX8_dayOf_2 : decode cX8_dayOf 2 = .ok (.iload_n 1, 1) := by decide +kernel
theorem dX8_dayOf_3 : decode cX8_dayOf 3 = .ok (.invokevirtual 155, 3) := by decide +kernel
theorem dX8_dayOf_6 : decode cX8_dayOf 6 = .ok (.ifCond .eq 7, 3) := by decide +kernel
theorem dX8_dayOf_9 : decode cX8_dayOf 9 = .ok (.iconst 0, 1) := by decide +kernel
theorem dX8_dayOf_10 : decode cX8_dayOf 10 = .ok (.goto 4, 3) := by decide +kernel
theorem dX8_dayOf_13 : decode cX8_dayOf 13 = .ok (.iconst 1, 1) := by decide +kernel
theorem dX8_dayOf_14 : decode cX8_dayOf 14 = .ok (.invokevirtual 112, 3) := by decide +kernel
theorem dX8_dayOf_17 : decode cX8_dayOf 17 = .ok (.ifCond .eq 12, 3) := by decide +kernel
theorem dX8_dayOf_20 : decode cX8_dayOf 20 = .ok (.aload_n 0, 1) := by decide +kernel
theorem dX8_dayOf_21 : decode cX8_dayOf 21 = .ok (.getfield 13, 3) := by decide +kernel
theorem dX8_dayOf_24 : decode cX8_dayOf 24 = .ok (.iload_n 1, 1) := by decide +kernel
theorem dX8_dayOf_25 : decode cX8_dayOf 25 = .ok (.iaload, 1) := by decide +kernel
theorem dX8_dayOf_26 : decode cX8_dayOf 26 = .ok (.goto 4, 3) := by decide +kernel
theorem dX8_dayOf_29 : decode cX8_dayOf 29 = .ok (.iconst 0, 1) := by decide +kernel
theorem dX8_dayOf_30 : decode cX8_dayOf 30 = .ok (.ireturn, 1) := by decide +kernel
theorem dX8_isCancelled_0 : decode cX8_isCancelled 0 = .ok (.aload_n 0, 1) := by decide +kernel
theorem dX8_isCancelled_1 : decode cX8_isCancelled 1 = .ok (.aload_n 0, 1) := by decide +kernel
theorem dX8_isCancelled_2 : decode cX8_isCancelled 2 = .ok (.iload_n 1, 1) := by decide +kernel
theorem dX8_isCancelled_3 : decode cX8_isCancelled 3 = .ok (.invokevirtual 155, 3) := by decide +kernel
theorem dX8_isCancelled_6 : decode cX8_isCancelled 6 = .ok (.ifCond .eq 7, 3) := by decide +kernel
theorem dX8_isCancelled_9 : decode cX8_isCancelled 9 = .ok (.iconst 0, 1) := by decide +kernel
theorem dX8_isCancelled_10 : decode cX8_isCancelled 10 = .ok (.goto 4, 3) := by decide +kernel
theorem dX8_isCancelled_13 : decode cX8_isCancelled 13 = .ok (.iconst 1, 1) := by decide +kernel
theorem dX8_isCancelled_14 : decode cX8_isCancelled 14 = .ok (.invokevirtual 112, 3) := by decide +kernel
theorem dX8_isCancelled_17 : decode cX8_isCancelled 17 = .ok (.ifCond .eq 16, 3) := by decide +kernel
theorem dX8_isCancelled_20 : decode cX8_isCancelled 20 = .ok (.aload_n 0, 1) := by decide +kernel
theorem dX8_isCancelled_21 : decode cX8_isCancelled 21 = .ok (.getfield 25, 3) := by decide +kernel
theorem dX8_isCancelled_24 : decode cX8_isCancelled 24 = .ok (.iload_n 1, 1) := by decide +kernel
theorem dX8_isCancelled_25 : decode cX8_isCancelled 25 = .ok (.baload, 1) := by decide +kernel
theorem dX8_isCancelled_26 : decode cX8_isCancelled 26 = .ok (.ifCond .eq 7, 3) := by decide +kernel
theorem dX8_isCancelled_29 : decode cX8_isCancelled 29 = .ok (.iconst 1, 1) := by decide +kernel
theorem dX8_isCancelled_30 : decode cX8_isCancelled 30 = .ok (.goto 4, 3) := by decide +kernel
theorem dX8_isCancelled_33 : decode cX8_isCancelled 33 = .ok (.iconst 0, 1) := by decide +kernel
theorem dX8_isCancelled_34 : decode cX8_isCancelled 34 = .ok (.ireturn, 1) := by decide +kernel
theorem dX8_placeOf_0 : decode cX8_placeOf 0 = .ok (.iconst (-1), 1) := by decide +kernel
theorem dX8_placeOf_1 : decode cX8_placeOf 1 = .ok (.istore_n 2, 1) := by decide +kernel
theorem dX8_placeOf_2 : decode cX8_placeOf 2 = .ok (.aload_n 0, 1) := by decide +kernel
theorem dX8_placeOf_3 : decode cX8_placeOf 3 = .ok (.aload_n 0, 1) := by decide +kernel
theorem dX8_placeOf_4 : decode cX8_placeOf 4 = .ok (.iload_n 1, 1) := by decide +kernel
theorem dX8_placeOf_5 : decode cX8_placeOf 5 = .ok (.invokevirtual 155, 3) := by decide +kernel
theorem dX8_placeOf_8 : decode cX8_placeOf 8 = .ok (.ifCond .eq 7, 3) := by decide +kernel
theorem dX8_placeOf_11 : decode cX8_placeOf 11 = .ok (.iconst 0, 1) := by decide +kernel
theorem dX8_placeOf_12 : decode cX8_placeOf 12 = .ok (.goto 4, 3) := by decide +kernel
theorem dX8_placeOf_15 : decode cX8_placeOf 15 = .ok (.iconst 1, 1) := by decide +kernel
theorem dX8_placeOf_16 : decode cX8_placeOf 16 = .ok (.invokevirtual 112, 3) := by decide +kernel
theorem dX8_placeOf_19 : decode cX8_placeOf 19 = .ok (.istore_n 3, 1) := by decide +kernel
theorem dX8_placeOf_20 : decode cX8_placeOf 20 = .ok (.aload_n 0, 1) := by decide +kernel
theorem dX8_placeOf_21 : decode cX8_placeOf 21 = .ok (.invokevirtual 83, 3) := by decide +kernel
theorem dX8_placeOf_24 : decode cX8_placeOf 24 = .ok (.iconst 0, 1) := by decide +kernel
theorem dX8_placeOf_25 : decode cX8_placeOf 25 = .ok (.istore 4, 2) := by decide +kernel
theorem dX8_placeOf_27 : decode cX8_placeOf 27 = .ok (.iload 4, 2) := by decide +kernel
theorem dX8_placeOf_29 : decode cX8_placeOf 29 = .ok (.aload_n 0, 1) := by decide +kernel
theorem dX8_placeOf_30 : decode cX8_placeOf 30 = .ok (.getfield 80, 3) := by decide +kernel
theorem dX8_placeOf_33 : decode cX8_placeOf 33 = .ok (.if_icmp .ge 27, 3) := by decide +kernel
theorem dX8_placeOf_36 : decode cX8_placeOf 36 = .ok (.aload_n 0, 1) := by decide +kernel
theorem dX8_placeOf_37 : decode cX8_placeOf 37 = .ok (.getfield 43, 3) := by decide +kernel
theorem dX8_placeOf_40 : decode cX8_placeOf 40 = .ok (.iload 4, 2) := by decide +kernel
theorem dX8_placeOf_42 : decode cX8_placeOf 42 = .ok (.iaload, 1) := by decide +kernel
theorem dX8_placeOf_43 : decode cX8_placeOf 43 = .ok (.iload_n 1, 1) := by decide +kernel
theorem dX8_placeOf_44 : decode cX8_placeOf 44 = .ok (.if_icmp .ne 8, 3) := by decide +kernel
theorem dX8_placeOf_47 : decode cX8_placeOf 47 = .ok (.iload 4, 2) := by decide +kernel
theorem dX8_placeOf_49 : decode cX8_placeOf 49 = .ok (.goto 4, 3) := by decide +kernel
theorem dX8_placeOf_52 : decode cX8_placeOf 52 = .ok (.iload_n 2, 1) := by decide +kernel
theorem dX8_placeOf_53 : decode cX8_placeOf 53 = .ok (.istore_n 2, 1) := by decide +kernel
theorem dX8_placeOf_54 : decode cX8_placeOf 54 = .ok (.iinc 4 1, 3) := by decide +kernel
theorem dX8_placeOf_57 : decode cX8_placeOf 57 = .ok (.goto (-30), 3) := by decide +kernel
theorem dX8_placeOf_60 : decode cX8_placeOf 60 = .ok (.iload_n 3, 1) := by decide +kernel
theorem dX8_placeOf_61 : decode cX8_placeOf 61 = .ok (.ifCond .eq 7, 3) := by decide +kernel
theorem dX8_placeOf_64 : decode cX8_placeOf 64 = .ok (.iload_n 2, 1) := by decide +kernel
theorem dX8_placeOf_65 : decode cX8_placeOf 65 = .ok (.goto 4, 3) := by decide +kernel
theorem dX8_placeOf_68 : decode cX8_placeOf 68 = .ok (.iconst 0, 1) := by decide +kernel
theorem dX8_placeOf_69 : decode cX8_placeOf 69 = .ok (.ireturn, 1) := by decide +kernel
theorem dX8_partOf_0 : decode cX8_partOf 0 = .ok (.aload_n 0, 1) := by decide +kernel
theorem dX8_partOf_1 : decode cX8_partOf 1 = .ok (.aload_n 0, 1) := by decide +kernel
theorem dX8_partOf_2 : decode cX8_partOf 2 = .ok (.iload_n 1, 1) := by decide +kernel
theorem dX8_partOf_3 : decode cX8_partOf 3 = .ok (.invokevirtual 155, 3) := by decide +kernel
theorem dX8_partOf_6 : decode cX8_partOf 6 = .ok (.ifCond .eq 11, 3) := by decide +kernel
theorem dX8_partOf_9 : decode cX8_partOf 9 = .ok (.aload_n 0, 1) := by decide +kernel
theorem dX8_partOf_10 : decode cX8_partOf 10 = .ok (.iload_n 2, 1) := by decide +kernel
theorem dX8_partOf_11 : decode cX8_partOf 11 = .ok (.invokevirtual 155, 3) := by decide +kernel
theorem dX8_partOf_14 : decode cX8_partOf 14 = .ok (.ifCond .ne 7, 3) := by decide +kernel
theorem dX8_partOf_17 : decode cX8_partOf 17 = .ok (.iconst 1, 1) := by decide +kernel
theorem dX8_partOf_18 : decode cX8_partOf 18 = .ok (.goto 18, 3) := by decide +kernel
theorem dX8_partOf_21 : decode cX8_partOf 21 = .ok (.aload_n 0, 1) := by decide +kernel
theorem dX8_partOf_22 : decode cX8_partOf 22 = .ok (.getfield 7, 3) := by decide +kernel
theorem dX8_partOf_25 : decode cX8_partOf 25 = .ok (.iload_n 1, 1) := by decide +kernel
theorem dX8_partOf_26 : decode cX8_partOf 26 = .ok (.iaload, 1) := by decide +kernel
theorem dX8_partOf_27 : decode cX8_partOf 27 = .ok (.iconst 3, 1) := by decide +kernel
theorem dX8_partOf_28 : decode cX8_partOf 28 = .ok (.if_icmp .eq 7, 3) := by decide +kernel
theorem dX8_partOf_31 : decode cX8_partOf 31 = .ok (.iconst 2, 1) := by decide +kernel
theorem dX8_partOf_32 : decode cX8_partOf 32 = .ok (.goto 4, 3) := by decide +kernel
theorem dX8_partOf_35 : decode cX8_partOf 35 = .ok (.iconst 0, 1) := by decide +kernel
theorem dX8_partOf_36 : decode cX8_partOf 36 = .ok (.invokevirtual 112, 3) := by decide +kernel
theorem dX8_partOf_39 : decode cX8_partOf 39 = .ok (.istore_n 3, 1) := by decide +kernel
theorem dX8_partOf_40 : decode cX8_partOf 40 = .ok (.iload_n 3, 1) := by decide +kernel
theorem dX8_partOf_41 : decode cX8_partOf 41 = .ok (.ifCond .eq 17, 3) := by decide +kernel
theorem dX8_partOf_44 : decode cX8_partOf 44 = .ok (.aload_n 0, 1) := by decide +kernel
theorem dX8_partOf_45 : decode cX8_partOf 45 = .ok (.getfield 33, 3) := by decide +kernel
theorem dX8_partOf_48 : decode cX8_partOf 48 = .ok (.bipush 60, 2) := by decide +kernel
theorem dX8_partOf_50 : decode cX8_partOf 50 = .ok (.iload_n 1, 1) := by decide +kernel
theorem dX8_partOf_51 : decode cX8_partOf 51 = .ok (.imul, 1) := by decide +kernel
theorem dX8_partOf_52 : decode cX8_partOf 52 = .ok (.iload_n 2, 1) := by decide +kernel
theorem dX8_partOf_53 : decode cX8_partOf 53 = .ok (.iadd, 1) := by decide +kernel
theorem dX8_partOf_54 : decode cX8_partOf 54 = .ok (.iaload, 1) := by decide +kernel
theorem dX8_partOf_55 : decode cX8_partOf 55 = .ok (.goto 4, 3) := by decide +kernel
theorem dX8_partOf_58 : decode cX8_partOf 58 = .ok (.iconst 0, 1) := by decide +kernel
theorem dX8_partOf_59 : decode cX8_partOf 59 = .ok (.ireturn, 1) := by decide +kernel
theorem dX8_drops_0 : decode cX8_drops 0 = .ok (.aload_n 0, 1) := by decide +kernel
theorem dX8_drops_1 : decode cX8_drops 1 = .ok (.dup, 1) := by decide +kernel
theorem dX8_drops_2 : decode cX8_drops 2 = .ok (.getfield 161, 3) := by decide +kernel
theorem dX8_drops_5 : decode cX8_drops 5 = .ok (.iconst 1, 1) := by decide +kernel
theorem dX8_drops_6 : decode cX8_drops 6 = .ok (.isub, 1) := by decide +kernel
theorem dX8_drops_7 : decode cX8_drops 7 = .ok (.putfield 161, 3) := by decide +kernel
theorem dX8_drops_10 : decode cX8_drops 10 = .ok (.iconst 0, 1) := by decide +kernel
theorem dX8_drops_11 : decode cX8_drops 11 = .ok (.istore_n 1, 1) := by decide +kernel
theorem dX8_drops_12 : decode cX8_drops 12 = .ok (.iload_n 1, 1) := by decide +kernel
theorem dX8_drops_13 : decode cX8_drops 13 = .ok (.aload_n 0, 1) := by decide +kernel
theorem dX8_drops_14 : decode cX8_drops 14 = .ok (.getfield 161, 3) := by decide +kernel
theorem dX8_drops_17 : decode cX8_drops 17 = .ok (.if_icmp .ge 51, 3) := by decide +kernel
theorem dX8_drops_20 : decode cX8_drops 20 = .ok (.aload_n 0, 1) := by decide +kernel
theorem dX8_drops_21 : decode cX8_drops 21 = .ok (.getfield 58, 3) := by decide +kernel
theorem dX8_drops_24 : decode cX8_drops 24 = .ok (.iload_n 1, 1) := by decide +kernel
theorem dX8_drops_25 : decode cX8_drops 25 = .ok (.aload_n 0, 1) := by decide +kernel
theorem dX8_drops_26 : decode cX8_drops 26 = .ok (.getfield 58, 3) := by decide +kernel
theorem dX8_drops_29 : decode cX8_drops 29 = .ok (.iload_n 1, 1) := by decide +kernel
theorem dX8_drops_30 : decode cX8_drops 30 = .ok (.iconst 1, 1) := by decide +kernel
theorem dX8_drops_31 : decode cX8_drops 31 = .ok (.iadd, 1) := by decide +kernel
theorem dX8_drops_32 : decode cX8_drops 32 = .ok (.iaload, 1) := by decide +kernel
theorem dX8_drops_33 : decode cX8_drops 33 = .ok (.iastore, 1) := by decide +kernel
theorem dX8_drops_34 : decode cX8_drops 34 = .ok (.aload_n 0, 1) := by decide +kernel
theorem dX8_drops_35 : decode cX8_drops 35 = .ok (.getfield 61, 3) := by decide +kernel
theorem dX8_drops_38 : decode cX8_drops 38 = .ok (.iload_n 1, 1) := by decide +kernel
theorem dX8_drops_39 : decode cX8_drops 39 = .ok (.aload_n 0, 1) := by decide +kernel
theorem dX8_drops_40 : decode cX8_drops 40 = .ok (.getfield 61, 3) := by decide +kernel
theorem dX8_drops_43 : decode cX8_drops 43 = .ok (.iload_n 1, 1) := by decide +kernel
theorem dX8_drops_44 : decode cX8_drops 44 = .ok (.iconst 1, 1) := by decide +kernel
theorem dX8_drops_45 : decode cX8_drops 45 = .ok (.iadd, 1) := by decide +kernel
theorem dX8_drops_46 : decode cX8_drops 46 = .ok (.laload, 1) := by decide +kernel
theorem dX8_drops_47 : decode cX8_drops 47 = .ok (.lastore, 1) := by decide +kernel
theorem dX8_drops_48 : decode cX8_drops 48 = .ok (.aload_n 0, 1) := by decide +kernel
theorem dX8_drops_49 : decode cX8_drops 49 = .ok (.getfield 64, 3) := by decide +kernel
theorem dX8_drops_52 : decode cX8_drops 52 = .ok (.iload_n 1, 1) := by decide +kernel
theorem dX8_drops_53 : decode cX8_drops 53 = .ok (.aload_n 0, 1) := by decide +kernel
theorem dX8_drops_54 : decode cX8_drops 54 = .ok (.getfield 64, 3) := by decide +kernel
theorem dX8_drops_57 : decode cX8_drops 57 = .ok (.iload_n 1, 1) := by decide +kernel
theorem dX8_drops_58 : decode cX8_drops 58 = .ok (.iconst 1, 1) := by decide +kernel
theorem dX8_drops_59 : decode cX8_drops 59 = .ok (.iadd, 1) := by decide +kernel
theorem dX8_drops_60 : decode cX8_drops 60 = .ok (.iaload, 1) := by decide +kernel
theorem dX8_drops_61 : decode cX8_drops 61 = .ok (.iastore, 1) := by decide +kernel
theorem dX8_drops_62 : decode cX8_drops 62 = .ok (.iinc 1 1, 3) := by decide +kernel
theorem dX8_drops_65 : decode cX8_drops 65 = .ok (.goto (-53), 3) := by decide +kernel
theorem dX8_drops_68 : decode cX8_drops 68 = .ok (.return_, 1) := by decide +kernel
theorem dX8_takes_0 : decode cX8_takes 0 = .ok (.lconst 0, 1) := by decide +kernel
theorem dX8_takes_1 : decode cX8_takes 1 = .ok (.lstore_n 2, 1) := by decide +kernel
theorem dX8_takes_2 : decode cX8_takes 2 = .ok (.iload_n 1, 1) := by decide +kernel
theorem dX8_takes_3 : decode cX8_takes 3 = .ok (.istore 4, 2) := by decide +kernel
theorem dX8_takes_5 : decode cX8_takes 5 = .ok (.iload 4, 2) := by decide +kernel
theorem dX8_takes_7 : decode cX8_takes 7 = .ok (.ifCond .le 97, 3) := by decide +kernel
theorem dX8_takes_10 : decode cX8_takes 10 = .ok (.aload_n 0, 1) := by decide +kernel
theorem dX8_takes_11 : decode cX8_takes 11 = .ok (.getfield 58, 3) := by decide +kernel
theorem dX8_takes_14 : decode cX8_takes 14 = .ok (.iconst 0, 1) := by decide +kernel
theorem dX8_takes_15 : decode cX8_takes 15 = .ok (.iaload, 1) := by decide +kernel
theorem dX8_takes_16 : decode cX8_takes 16 = .ok (.iload 4, 2) := by decide +kernel
theorem dX8_takes_18 : decode cX8_takes 18 = .ok (.if_icmp .ge 12, 3) := by decide +kernel
theorem dX8_takes_21 : decode cX8_takes 21 = .ok (.aload_n 0, 1) := by decide +kernel
theorem dX8_takes_22 : decode cX8_takes 22 = .ok (.getfield 58, 3) := by decide +kernel
theorem dX8_takes_25 : decode cX8_takes 25 = .ok (.iconst 0, 1) := by decide +kernel
theorem dX8_takes_26 : decode cX8_takes 26 = .ok (.iaload, 1) := by decide +kernel
theorem dX8_takes_27 : decode cX8_takes 27 = .ok (.goto 5, 3) := by decide +kernel
theorem dX8_takes_30 : decode cX8_takes 30 = .ok (.iload 4, 2) := by decide +kernel
theorem dX8_takes_32 : decode cX8_takes 32 = .ok (.istore 5, 2) := by decide +kernel
theorem dX8_takes_34 : decode cX8_takes 34 = .ok (.aload_n 0, 1) := by decide +kernel
theorem dX8_takes_35 : decode cX8_takes 35 = .ok (.getfield 61, 3) := by decide +kernel
theorem dX8_takes_38 : decode cX8_takes 38 = .ok (.iconst 0, 1) := by decide +kernel
theorem dX8_takes_39 : decode cX8_takes 39 = .ok (.laload, 1) := by decide +kernel
theorem dX8_takes_40 : decode cX8_takes 40 = .ok (.iload 5, 2) := by decide +kernel
theorem dX8_takes_42 : decode cX8_takes 42 = .ok (.i2l, 1) := by decide +kernel
theorem dX8_takes_43 : decode cX8_takes 43 = .ok (.lmul, 1) := by decide +kernel
theorem dX8_takes_44 : decode cX8_takes 44 = .ok (.aload_n 0, 1) := by decide +kernel
theorem dX8_takes_45 : decode cX8_takes 45 = .ok (.getfield 58, 3) := by decide +kernel
theorem dX8_takes_48 : decode cX8_takes 48 = .ok (.iconst 0, 1) := by decide +kernel
theorem dX8_takes_49 : decode cX8_takes 49 = .ok (.iaload, 1) := by decide +kernel
theorem dX8_takes_50 : decode cX8_takes 50 = .ok (.i2l, 1) := by decide +kernel
theorem dX8_takes_51 : decode cX8_takes 51 = .ok (.ldiv, 1) := by decide +kernel
theorem dX8_takes_52 : decode cX8_takes 52 = .ok (.lstore 6, 2) := by decide +kernel
theorem dX8_takes_54 : decode cX8_takes 54 = .ok (.lload_n 2, 1) := by decide +kernel
theorem dX8_takes_55 : decode cX8_takes 55 = .ok (.lload 6, 2) := by decide +kernel
theorem dX8_takes_57 : decode cX8_takes 57 = .ok (.ladd, 1) := by decide +kernel
theorem dX8_takes_58 : decode cX8_takes 58 = .ok (.lstore_n 2, 1) := by decide +kernel
theorem dX8_takes_59 : decode cX8_takes 59 = .ok (.iload 4, 2) := by decide +kernel
theorem dX8_takes_61 : decode cX8_takes 61 = .ok (.iload 5, 2) := by decide +kernel
theorem dX8_takes_63 : decode cX8_takes 63 = .ok (.isub, 1) := by decide +kernel
theorem dX8_takes_64 : decode cX8_takes 64 = .ok (.istore 4, 2) := by decide +kernel
theorem dX8_takes_66 : decode cX8_takes 66 = .ok (.aload_n 0, 1) := by decide +kernel
theorem dX8_takes_67 : decode cX8_takes 67 = .ok (.getfield 61, 3) := by decide +kernel
theorem dX8_takes_70 : decode cX8_takes 70 = .ok (.iconst 0, 1) := by decide +kernel
theorem dX8_takes_71 : decode cX8_takes 71 = .ok (.dup2, 1) := by decide +kernel
theorem dX8_takes_72 : decode cX8_takes 72 = .ok (.laload, 1) := by decide +kernel
theorem dX8_takes_73 : decode cX8_takes 73 = .ok (.lload 6, 2) := by decide +kernel
theorem dX8_takes_75 : decode cX8_takes 75 = .ok (.lsub, 1) := by decide +kernel
theorem dX8_takes_76 : decode cX8_takes 76 = .ok (.lastore, 1) := by decide +kernel
theorem dX8_takes_77 : decode cX8_takes 77 = .ok (.aload_n 0, 1) := by decide +kernel
theorem dX8_takes_78 : decode cX8_takes 78 = .ok (.getfield 58, 3) := by decide +kernel
theorem dX8_takes_81 : decode cX8_takes 81 = .ok (.iconst 0, 1) := by decide +kernel
theorem dX8_takes_82 : decode cX8_takes 82 = .ok (.dup2, 1) := by decide +kernel
theorem dX8_takes_83 : decode cX8_takes 83 = .ok (.iaload, 1) := by decide +kernel
theorem dX8_takes_84 : decode cX8_takes 84 = .ok (.iload 5, 2) := by decide +kernel
theorem dX8_takes_86 : decode cX8_takes 86 = .ok (.isub, 1) := by decide +kernel
theorem dX8_takes_87 : decode cX8_takes 87 = .ok (.iastore, 1) := by decide +kernel
theorem dX8_takes_88 : decode cX8_takes 88 = .ok (.aload_n 0, 1) := by decide +kernel
theorem dX8_takes_89 : decode cX8_takes 89 = .ok (.getfield 58, 3) := by decide +kernel
theorem dX8_takes_92 : decode cX8_takes 92 = .ok (.iconst 0, 1) := by decide +kernel
theorem dX8_takes_93 : decode cX8_takes 93 = .ok (.iaload, 1) := by decide +kernel
theorem dX8_takes_94 : decode cX8_takes 94 = .ok (.ifCond .ne 7, 3) := by decide +kernel
theorem dX8_takes_97 : decode cX8_takes 97 = .ok (.aload_n 0, 1) := by decide +kernel
theorem dX8_takes_98 : decode cX8_takes 98 = .ok (.invokevirtual 164, 3) := by decide +kernel
theorem dX8_takes_101 : decode cX8_takes 101 = .ok (.goto (-96), 3) := by decide +kernel
theorem dX8_takes_104 : decode cX8_takes 104 = .ok (.lload_n 2, 1) := by decide +kernel
theorem dX8_takes_105 : decode cX8_takes 105 = .ok (.lreturn, 1) := by decide +kernel
theorem dX8_lays_0 : decode cX8_lays 0 = .ok (.aload_n 0, 1) := by decide +kernel
theorem dX8_lays_1 : decode cX8_lays 1 = .ok (.getfield 161, 3) := by decide +kernel
theorem dX8_lays_4 : decode cX8_lays 4 = .ok (.istore_n 3, 1) := by decide +kernel
theorem dX8_lays_5 : decode cX8_lays 5 = .ok (.iload_n 3, 1) := by decide +kernel
theorem dX8_lays_6 : decode cX8_lays 6 = .ok (.iload_n 1, 1) := by decide +kernel
theorem dX8_lays_7 : decode cX8_lays 7 = .ok (.if_icmp .le 51, 3) := by decide +kernel
theorem dX8_lays_10 : decode cX8_lays 10 = .ok (.aload_n 0, 1) := by decide +kernel
theorem dX8_lays_11 : decode cX8_lays 11 = .ok (.getfield 58, 3) := by decide +kernel
theorem dX8_lays_14 : decode cX8_lays 14 = .ok (.iload_n 3, 1) := by decide +kernel
theorem dX8_lays_15 : decode cX8_lays 15 = .ok (.aload_n 0, 1) := by decide +kernel
theorem dX8_lays_16 : decode cX8_lays 16 = .ok (.getfield 58, 3) := by decide +kernel
theorem dX8_lays_19 : decode cX8_lays 19 = .ok (.iload_n 3, 1) := by decide +kernel
theorem dX8_lays_20 : decode cX8_lays 20 = .ok (.iconst 1, 1) := by decide +kernel
theorem dX8_lays_21 : decode cX8_lays 21 = .ok (.isub, 1) := by decide +kernel
theorem dX8_lays_22 : decode cX8_lays 22 = .ok (.iaload, 1) := by decide +kernel
theorem dX8_lays_23 : decode cX8_lays 23 = .ok (.iastore, 1) := by decide +kernel
theorem dX8_lays_24 : decode cX8_lays 24 = .ok (.aload_n 0, 1) := by decide +kernel
theorem dX8_lays_25 : decode cX8_lays 25 = .ok (.getfield 61, 3) := by decide +kernel
theorem dX8_lays_28 : decode cX8_lays 28 = .ok (.iload_n 3, 1) := by decide +kernel
theorem dX8_lays_29 : decode cX8_lays 29 = .ok (.aload_n 0, 1) := by decide +kernel
theorem dX8_lays_30 : decode cX8_lays 30 = .ok (.getfield 61, 3) := by decide +kernel
theorem dX8_lays_33 : decode cX8_lays 33 = .ok (.iload_n 3, 1) := by decide +kernel
theorem dX8_lays_34 : decode cX8_lays 34 = .ok (.iconst 1, 1) := by decide +kernel
theorem dX8_lays_35 : decode cX8_lays 35 = .ok (.isub, 1) := by decide +kernel
theorem dX8_lays_36 : decode cX8_lays 36 = .ok (.laload, 1) := by decide +kernel
theorem dX8_lays_37 : decode cX8_lays 37 = .ok (.lastore, 1) := by decide +kernel
theorem dX8_lays_38 : decode cX8_lays 38 = .ok (.aload_n 0, 1) := by decide +kernel
theorem dX8_lays_39 : decode cX8_lays 39 = .ok (.getfield 64, 3) := by decide +kernel
theorem dX8_lays_42 : decode cX8_lays 42 = .ok (.iload_n 3, 1) := by decide +kernel
theorem dX8_lays_43 : decode cX8_lays 43 = .ok (.aload_n 0, 1) := by decide +kernel
theorem dX8_lays_44 : decode cX8_lays 44 = .ok (.getfield 64, 3) := by decide +kernel
theorem dX8_lays_47 : decode cX8_lays 47 = .ok (.iload_n 3, 1) := by decide +kernel
theorem dX8_lays_48 : decode cX8_lays 48 = .ok (.iconst 1, 1) := by decide +kernel
theorem dX8_lays_49 : decode cX8_lays 49 = .ok (.isub, 1) := by decide +kernel
theorem dX8_lays_50 : decode cX8_lays 50 = .ok (.iaload, 1) := by decide +kernel
theorem dX8_lays_51 : decode cX8_lays 51 = .ok (.iastore, 1) := by decide +kernel
theorem dX8_lays_52 : decode cX8_lays 52 = .ok (.iinc 3 (-1), 3) := by decide +kernel
theorem dX8_lays_55 : decode cX8_lays 55 = .ok (.goto (-50), 3) := by decide +kernel
theorem dX8_lays_58 : decode cX8_lays 58 = .ok (.aload_n 0, 1) := by decide +kernel
theorem dX8_lays_59 : decode cX8_lays 59 = .ok (.getfield 58, 3) := by decide +kernel
theorem dX8_lays_62 : decode cX8_lays 62 = .ok (.iload_n 1, 1) := by decide +kernel
theorem dX8_lays_63 : decode cX8_lays 63 = .ok (.aload_n 0, 1) := by decide +kernel
theorem dX8_lays_64 : decode cX8_lays 64 = .ok (.getfield 19, 3) := by decide +kernel
theorem dX8_lays_67 : decode cX8_lays 67 = .ok (.iload_n 2, 1) := by decide +kernel
theorem dX8_lays_68 : decode cX8_lays 68 = .ok (.iaload, 1) := by decide +kernel
theorem dX8_lays_69 : decode cX8_lays 69 = .ok (.iastore, 1) := by decide +kernel
theorem dX8_lays_70 : decode cX8_lays 70 = .ok (.aload_n 0, 1) := by decide +kernel
theorem dX8_lays_71 : decode cX8_lays 71 = .ok (.getfield 61, 3) := by decide +kernel
theorem dX8_lays_74 : decode cX8_lays 74 = .ok (.iload_n 1, 1) := by decide +kernel
theorem dX8_lays_75 : decode cX8_lays 75 = .ok (.aload_n 0, 1) := by decide +kernel
theorem dX8_lays_76 : decode cX8_lays 76 = .ok (.getfield 22, 3) := by decide +kernel
theorem dX8_lays_79 : decode cX8_lays 79 = .ok (.iload_n 2, 1) := by decide +kernel
theorem dX8_lays_80 : decode cX8_lays 80 = .ok (.iaload, 1) := by decide +kernel
theorem dX8_lays_81 : decode cX8_lays 81 = .ok (.i2l, 1) := by decide +kernel
theorem dX8_lays_82 : decode cX8_lays 82 = .ok (.lastore, 1) := by decide +kernel
theorem dX8_lays_83 : decode cX8_lays 83 = .ok (.aload_n 0, 1) := by decide +kernel
theorem dX8_lays_84 : decode cX8_lays 84 = .ok (.getfield 64, 3) := by decide +kernel
theorem dX8_lays_87 : decode cX8_lays 87 = .ok (.iload_n 1, 1) := by decide +kernel
theorem dX8_lays_88 : decode cX8_lays 88 = .ok (.iload_n 2, 1) := by decide +kernel
theorem dX8_lays_89 : decode cX8_lays 89 = .ok (.iastore, 1) := by decide +kernel
theorem dX8_lays_90 : decode cX8_lays 90 = .ok (.aload_n 0, 1) := by decide +kernel
theorem dX8_lays_91 : decode cX8_lays 91 = .ok (.dup, 1) := by decide +kernel
theorem dX8_lays_92 : decode cX8_lays 92 = .ok (.getfield 161, 3) := by decide +kernel
theorem dX8_lays_95 : decode cX8_lays 95 = .ok (.iconst 1, 1) := by decide +kernel
theorem dX8_lays_96 : decode cX8_lays 96 = .ok (.iadd, 1) := by decide +kernel
theorem dX8_lays_97 : decode cX8_lays 97 = .ok (.putfield 161, 3) := by decide +kernel
theorem dX8_lays_100 : decode cX8_lays 100 = .ok (.return_, 1) := by decide +kernel
theorem dX8_layerOf_0 : decode cX8_layerOf 0 = .ok (.iconst (-1), 1) := by decide +kernel
theorem dX8_layerOf_1 : decode cX8_layerOf 1 = .ok (.istore_n 2, 1) := by decide +kernel
theorem dX8_layerOf_2 : decode cX8_layerOf 2 = .ok (.iconst 0, 1) := by decide +kernel
theorem dX8_layerOf_3 : decode cX8_layerOf 3 = .ok (.istore_n 3, 1) := by decide +kernel
theorem dX8_layerOf_4 : decode cX8_layerOf 4 = .ok (.iload_n 3, 1) := by decide +kernel
theorem dX8_layerOf_5 : decode cX8_layerOf 5 = .ok (.aload_n 0, 1) := by decide +kernel
theorem dX8_layerOf_6 : decode cX8_layerOf 6 = .ok (.getfield 161, 3) := by decide +kernel
theorem dX8_layerOf_9 : decode cX8_layerOf 9 = .ok (.if_icmp .ge 25, 3) := by decide +kernel
theorem dX8_layerOf_12 : decode cX8_layerOf 12 = .ok (.aload_n 0, 1) := by decide +kernel
theorem dX8_layerOf_13 : decode cX8_layerOf 13 = .ok (.getfield 64, 3) := by decide +kernel
theorem dX8_layerOf_16 : decode cX8_layerOf 16 = .ok (.iload_n 3, 1) := by decide +kernel
theorem dX8_layerOf_17 : decode cX8_layerOf 17 = .ok (.iaload, 1) := by decide +kernel
theorem dX8_layerOf_18 : decode cX8_layerOf 18 = .ok (.iload_n 1, 1) := by decide +kernel
theorem dX8_layerOf_19 : decode cX8_layerOf 19 = .ok (.if_icmp .ne 7, 3) := by decide +kernel
theorem dX8_layerOf_22 : decode cX8_layerOf 22 = .ok (.iload_n 3, 1) := by decide +kernel
theorem dX8_layerOf_23 : decode cX8_layerOf 23 = .ok (.goto 4, 3) := by decide +kernel
theorem dX8_layerOf_26 : decode cX8_layerOf 26 = .ok (.iload_n 2, 1) := by decide +kernel
theorem dX8_layerOf_27 : decode cX8_layerOf 27 = .ok (.istore_n 2, 1) := by decide +kernel
theorem dX8_layerOf_28 : decode cX8_layerOf 28 = .ok (.iinc 3 1, 3) := by decide +kernel
theorem dX8_layerOf_31 : decode cX8_layerOf 31 = .ok (.goto (-27), 3) := by decide +kernel
theorem dX8_layerOf_34 : decode cX8_layerOf 34 = .ok (.iload_n 2, 1) := by decide +kernel
theorem dX8_layerOf_35 : decode cX8_layerOf 35 = .ok (.ireturn, 1) := by decide +kernel
theorem dX8_lands_0 : decode cX8_lands 0 = .ok (.aload_n 0, 1) := by decide +kernel
theorem dX8_lands_1 : decode cX8_lands 1 = .ok (.getfield 19, 3) := by decide +kernel
theorem dX8_lands_4 : decode cX8_lands 4 = .ok (.iload_n 2, 1) := by decide +kernel
theorem dX8_lands_5 : decode cX8_lands 5 = .ok (.iaload, 1) := by decide +kernel
theorem dX8_lands_6 : decode cX8_lands 6 = .ok (.istore_n 3, 1) := by decide +kernel
theorem dX8_lands_7 : decode cX8_lands 7 = .ok (.aload_n 0, 1) := by decide +kernel
theorem dX8_lands_8 : decode cX8_lands 8 = .ok (.iload_n 2, 1) := by decide +kernel
theorem dX8_lands_9 : decode cX8_lands 9 = .ok (.invokevirtual 167, 3) := by decide +kernel
theorem dX8_lands_12 : decode cX8_lands 12 = .ok (.istore 4, 2) := by decide +kernel
theorem dX8_lands_14 : decode cX8_lands 14 = .ok (.iload 4, 2) := by decide +kernel
theorem dX8_lands_16 : decode cX8_lands 16 = .ok (.iconst (-1), 1) := by decide +kernel
theorem dX8_lands_17 : decode cX8_lands 17 = .ok (.if_icmp .ne 7, 3) := by decide +kernel
theorem dX8_lands_20 : decode cX8_lands 20 = .ok (.lconst 0, 1) := by decide +kernel
theorem dX8_lands_21 : decode cX8_lands 21 = .ok (.goto 17, 3) := by decide +kernel
theorem dX8_lands_24 : decode cX8_lands 24 = .ok (.iload_n 1, 1) := by decide +kernel
theorem dX8_lands_25 : decode cX8_lands 25 = .ok (.i2l, 1) := by decide +kernel
theorem dX8_lands_26 : decode cX8_lands 26 = .ok (.aload_n 0, 1) := by decide +kernel
theorem dX8_lands_27 : decode cX8_lands 27 = .ok (.getfield 58, 3) := by decide +kernel
theorem dX8_lands_30 : decode cX8_lands 30 = .ok (.iload 4, 2) := by decide +kernel
theorem dX8_lands_32 : decode cX8_lands 32 = .ok (.iaload, 1) := by decide +kernel
theorem dX8_lands_33 : decode cX8_lands 33 = .ok (.i2l, 1) := by decide +kernel
theorem dX8_lands_34 : decode cX8_lands 34 = .ok (.lmul, 1) := by decide +kernel
theorem dX8_lands_35 : decode cX8_lands 35 = .ok (.iload_n 3, 1) := by decide +kernel
theorem dX8_lands_36 : decode cX8_lands 36 = .ok (.i2l, 1) := by decide +kernel
theorem dX8_lands_37 : decode cX8_lands 37 = .ok (.ldiv, 1) := by decide +kernel
theorem dX8_lands_38 : decode cX8_lands 38 = .ok (.lstore 5, 2) := by decide +kernel
theorem dX8_lands_40 : decode cX8_lands 40 = .ok (.iload 4, 2) := by decide +kernel
theorem dX8_lands_42 : decode cX8_lands 42 = .ok (.iconst (-1), 1) := by decide +kernel
theorem dX8_lands_43 : decode cX8_lands 43 = .ok (.if_icmp .eq 15, 3) := by decide +kernel
theorem dX8_lands_46 : decode cX8_lands 46 = .ok (.aload_n 0, 1) := by decide +kernel
theorem dX8_lands_47 : decode cX8_lands 47 = .ok (.getfield 61, 3) := by decide +kernel
theorem dX8_lands_50 : decode cX8_lands 50 = .ok (.iload 4, 2) := by decide +kernel
theorem dX8_lands_52 : decode cX8_lands 52 = .ok (.dup2, 1) := by decide +kernel
theorem dX8_lands_53 : decode cX8_lands 53 = .ok (.laload, 1) := by decide +kernel
theorem dX8_lands_54 : decode cX8_lands 54 = .ok (.lload 5, 2) := by decide +kernel
theorem dX8_lands_56 : decode cX8_lands 56 = .ok (.ladd, 1) := by decide +kernel
theorem dX8_lands_57 : decode cX8_lands 57 = .ok (.lastore, 1) := by decide +kernel
theorem dX8_lands_58 : decode cX8_lands 58 = .ok (.aload_n 0, 1) := by decide +kernel
theorem dX8_lands_59 : decode cX8_lands 59 = .ok (.dup, 1) := by decide +kernel
theorem dX8_lands_60 : decode cX8_lands 60 = .ok (.getfield 171, 3) := by decide +kernel
theorem dX8_lands_63 : decode cX8_lands 63 = .ok (.iload_n 1, 1) := by decide +kernel
theorem dX8_lands_64 : decode cX8_lands 64 = .ok (.i2l, 1) := by decide +kernel
theorem dX8_lands_65 : decode cX8_lands 65 = .ok (.ladd, 1) := by decide +kernel
theorem dX8_lands_66 : decode cX8_lands 66 = .ok (.putfield 171, 3) := by decide +kernel
theorem dX8_lands_69 : decode cX8_lands 69 = .ok (.aload_n 0, 1) := by decide +kernel
theorem dX8_lands_70 : decode cX8_lands 70 = .ok (.getfield 52, 3) := by decide +kernel
theorem dX8_lands_73 : decode cX8_lands 73 = .ok (.iconst 0, 1) := by decide +kernel
theorem dX8_lands_74 : decode cX8_lands 74 = .ok (.dup2, 1) := by decide +kernel
theorem dX8_lands_75 : decode cX8_lands 75 = .ok (.laload, 1) := by decide +kernel
theorem dX8_lands_76 : decode cX8_lands 76 = .ok (.iload_n 1, 1) := by decide +kernel
theorem dX8_lands_77 : decode cX8_lands 77 = .ok (.i2l, 1) := by decide +kernel
theorem dX8_lands_78 : decode cX8_lands 78 = .ok (.lload 5, 2) := by decide +kernel
theorem dX8_lands_80 : decode cX8_lands 80 = .ok (.lsub, 1) := by decide +kernel
theorem dX8_lands_81 : decode cX8_lands 81 = .ok (.ladd, 1) := by decide +kernel
theorem dX8_lands_82 : decode cX8_lands 82 = .ok (.lastore, 1) := by decide +kernel
theorem dX8_lands_83 : decode cX8_lands 83 = .ok (.iload_n 1, 1) := by decide +kernel
theorem dX8_lands_84 : decode cX8_lands 84 = .ok (.i2l, 1) := by decide +kernel
theorem dX8_lands_85 : decode cX8_lands 85 = .ok (.aload_n 0, 1) := by decide +kernel
theorem dX8_lands_86 : decode cX8_lands 86 = .ok (.getfield 175, 3) := by decide +kernel
theorem dX8_lands_89 : decode cX8_lands 89 = .ok (.iload_n 3, 1) := by decide +kernel
theorem dX8_lands_90 : decode cX8_lands 90 = .ok (.if_icmp .ge 10, 3) := by decide +kernel
theorem dX8_lands_93 : decode cX8_lands 93 = .ok (.aload_n 0, 1) := by decide +kernel
theorem dX8_lands_94 : decode cX8_lands 94 = .ok (.getfield 175, 3) := by decide +kernel
theorem dX8_lands_97 : decode cX8_lands 97 = .ok (.goto 4, 3) := by decide +kernel
theorem dX8_lands_100 : decode cX8_lands 100 = .ok (.iload_n 3, 1) := by decide +kernel
theorem dX8_lands_101 : decode cX8_lands 101 = .ok (.i2l, 1) := by decide +kernel
theorem dX8_lands_102 : decode cX8_lands 102 = .ok (.lmul, 1) := by decide +kernel
theorem dX8_lands_103 : decode cX8_lands 103 = .ok (.iload_n 3, 1) := by decide +kernel
theorem dX8_lands_104 : decode cX8_lands 104 = .ok (.i2l, 1) := by decide +kernel
theorem dX8_lands_105 : decode cX8_lands 105 = .ok (.ldiv, 1) := by decide +kernel
theorem dX8_lands_106 : decode cX8_lands 106 = .ok (.lstore 5, 2) := by decide +kernel
theorem dX8_lands_108 : decode cX8_lands 108 = .ok (.aload_n 0, 1) := by decide +kernel
theorem dX8_lands_109 : decode cX8_lands 109 = .ok (.dup, 1) := by decide +kernel
theorem dX8_lands_110 : decode cX8_lands 110 = .ok (.getfield 178, 3) := by decide +kernel
theorem dX8_lands_113 : decode cX8_lands 113 = .ok (.lload 5, 2) := by decide +kernel
theorem dX8_lands_115 : decode cX8_lands 115 = .ok (.ladd, 1) := by decide +kernel
theorem dX8_lands_116 : decode cX8_lands 116 = .ok (.putfield 178, 3) := by decide +kernel
theorem dX8_lands_119 : decode cX8_lands 119 = .ok (.aload_n 0, 1) := by decide +kernel
theorem dX8_lands_120 : decode cX8_lands 120 = .ok (.getfield 52, 3) := by decide +kernel
theorem dX8_lands_123 : decode cX8_lands 123 = .ok (.iconst 1, 1) := by decide +kernel
theorem dX8_lands_124 : decode cX8_lands 124 = .ok (.dup2, 1) := by decide +kernel
theorem dX8_lands_125 : decode cX8_lands 125 = .ok (.laload, 1) := by decide +kernel
theorem dX8_lands_126 : decode cX8_lands 126 = .ok (.iload_n 1, 1) := by decide +kernel
theorem dX8_lands_127 : decode cX8_lands 127 = .ok (.i2l, 1) := by decide +kernel
theorem dX8_lands_128 : decode cX8_lands 128 = .ok (.lload 5, 2) := by decide +kernel
theorem dX8_lands_130 : decode cX8_lands 130 = .ok (.lsub, 1) := by decide +kernel
theorem dX8_lands_131 : decode cX8_lands 131 = .ok (.ladd, 1) := by decide +kernel
theorem dX8_lands_132 : decode cX8_lands 132 = .ok (.lastore, 1) := by decide +kernel
theorem dX8_lands_133 : decode cX8_lands 133 = .ok (.return_, 1) := by decide +kernel
theorem dX8_moves_0 : decode cX8_moves 0 = .ok (.aload_n 0, 1) := by decide +kernel
theorem dX8_moves_1 : decode cX8_moves 1 = .ok (.getfield 7, 3) := by decide +kernel
theorem dX8_moves_4 : decode cX8_moves 4 = .ok (.iload_n 1, 1) := by decide +kernel
theorem dX8_moves_5 : decode cX8_moves 5 = .ok (.iaload, 1) := by decide +kernel
theorem dX8_moves_6 : decode cX8_moves 6 = .ok (.ifCond .ne 7, 3) := by decide +kernel
theorem dX8_moves_9 : decode cX8_moves 9 = .ok (.lconst 0, 1) := by decide +kernel
theorem dX8_moves_10 : decode cX8_moves 10 = .ok (.goto 13, 3) := by decide +kernel
theorem dX8_moves_13 : decode cX8_moves 13 = .ok (.aload_n 0, 1) := by decide +kernel
theorem dX8_moves_14 : decode cX8_moves 14 = .ok (.aload_n 0, 1) := by decide +kernel
theorem dX8_moves_15 : decode cX8_moves 15 = .ok (.getfield 19, 3) := by decide +kernel
theorem dX8_moves_18 : decode cX8_moves 18 = .ok (.iload_n 1, 1) := by decide +kernel
theorem dX8_moves_19 : decode cX8_moves 19 = .ok (.iaload, 1) := by decide +kernel
theorem dX8_moves_20 : decode cX8_moves 20 = .ok (.invokevirtual 181, 3) := by decide +kernel
theorem dX8_moves_23 : decode cX8_moves 23 = .ok (.lstore_n 2, 1) := by decide +kernel
theorem dX8_moves_24 : decode cX8_moves 24 = .ok (.aload_n 0, 1) := by decide +kernel
theorem dX8_moves_25 : decode cX8_moves 25 = .ok (.getfield 7, 3) := by decide +kernel
theorem dX8_moves_28 : decode cX8_moves 28 = .ok (.iload_n 1, 1) := by decide +kernel
theorem dX8_moves_29 : decode cX8_moves 29 = .ok (.iaload, 1) := by decide +kernel
theorem dX8_moves_30 : decode cX8_moves 30 = .ok (.ifCond .ne 7, 3) := by decide +kernel
theorem dX8_moves_33 : decode cX8_moves 33 = .ok (.lconst 0, 1) := by decide +kernel
theorem dX8_moves_34 : decode cX8_moves 34 = .ok (.goto 21, 3) := by decide +kernel
theorem dX8_moves_37 : decode cX8_moves 37 = .ok (.aload_n 0, 1) := by decide +kernel
theorem dX8_moves_38 : decode cX8_moves 38 = .ok (.getfield 178, 3) := by decide +kernel
theorem dX8_moves_41 : decode cX8_moves 41 = .ok (.aload_n 0, 1) := by decide +kernel
theorem dX8_moves_42 : decode cX8_moves 42 = .ok (.getfield 19, 3) := by decide +kernel
theorem dX8_moves_45 : decode cX8_moves 45 = .ok (.iload_n 1, 1) := by decide +kernel
theorem dX8_moves_46 : decode cX8_moves 46 = .ok (.iaload, 1) := by decide +kernel
theorem dX8_moves_47 : decode cX8_moves 47 = .ok (.i2l, 1) := by decide +kernel
theorem dX8_moves_48 : decode cX8_moves 48 = .ok (.lmul, 1) := by decide +kernel
theorem dX8_moves_49 : decode cX8_moves 49 = .ok (.aload_n 0, 1) := by decide +kernel
theorem dX8_moves_50 : decode cX8_moves 50 = .ok (.getfield 175, 3) := by decide +kernel
theorem dX8_moves_53 : decode cX8_moves 53 = .ok (.i2l, 1) := by decide +kernel
theorem dX8_moves_54 : decode cX8_moves 54 = .ok (.ldiv, 1) := by decide +kernel
theorem dX8_moves_55 : decode cX8_moves 55 = .ok (.lstore 4, 2) := by decide +kernel
theorem dX8_moves_57 : decode cX8_moves 57 = .ok (.aload_n 0, 1) := by decide +kernel
theorem dX8_moves_58 : decode cX8_moves 58 = .ok (.getfield 7, 3) := by decide +kernel
theorem dX8_moves_61 : decode cX8_moves 61 = .ok (.iload_n 1, 1) := by decide +kernel
theorem dX8_moves_62 : decode cX8_moves 62 = .ok (.iaload, 1) := by decide +kernel
theorem dX8_moves_63 : decode cX8_moves 63 = .ok (.ifCond .ne 31, 3) := by decide +kernel
theorem dX8_moves_66 : decode cX8_moves 66 = .ok (.aload_n 0, 1) := by decide +kernel
theorem dX8_moves_67 : decode cX8_moves 67 = .ok (.aload_n 0, 1) := by decide +kernel
theorem dX8_moves_68 : decode cX8_moves 68 = .ok (.getfield 161, 3) := by decide +kernel
theorem dX8_moves_71 : decode cX8_moves 71 = .ok (.iload_n 1, 1) := by decide +kernel
theorem dX8_moves_72 : decode cX8_moves 72 = .ok (.invokevirtual 185, 3) := by decide +kernel
