theorem dL_isLanded_102 : decode cL_isLanded 102 = .ok (.iload_n 3, 1) := by decide +kernel
theorem dL_isLanded_103 : decode cL_isLanded 103 = .ok (.iload 4, 2) := by decide +kernel
theorem dL_isLanded_105 : decode cL_isLanded 105 = .ok (.iload 5, 2) := by decide +kernel
theorem dL_isLanded_107 : decode cL_isLanded 107 = .ok (.lload 6, 2) := by decide +kernel
theorem dL_isLanded_109 : decode cL_isLanded 109 = .ok (.invokestatic 160, 3) := by decide +kernel
theorem dL_isLanded_112 : decode cL_isLanded 112 = .ok (.istore 12, 2) := by decide +kernel
theorem dL_isLanded_114 : decode cL_isLanded 114 = .ok (.lload 6, 2) := by decide +kernel
theorem dL_isLanded_116 : decode cL_isLanded 116 = .ok (.lconst 0, 1) := by decide +kernel
theorem dL_isLanded_117 : decode cL_isLanded 117 = .ok (.lcmp, 1) := by decide +kernel
theorem dL_isLanded_118 : decode cL_isLanded 118 = .ok (.ifCond .ne 16, 3) := by decide +kernel
theorem dL_isLanded_121 : decode cL_isLanded 121 = .ok (.iload 12, 2) := by decide +kernel
theorem dL_isLanded_123 : decode cL_isLanded 123 = .ok (.bipush (-6), 2) := by decide +kernel
theorem dL_isLanded_125 : decode cL_isLanded 125 = .ok (.if_icmp .ne 7, 3) := by decide +kernel
theorem dL_isLanded_128 : decode cL_isLanded 128 = .ok (.iconst 1, 1) := by decide +kernel
theorem dL_isLanded_129 : decode cL_isLanded 129 = .ok (.goto 4, 3) := by decide +kernel
theorem dL_isLanded_132 : decode cL_isLanded 132 = .ok (.iconst 0, 1) := by decide +kernel
theorem dL_isLanded_133 : decode cL_isLanded 133 = .ok (.ireturn, 1) := by decide +kernel
theorem dL_isLanded_134 : decode cL_isLanded 134 = .ok (.iload 9, 2) := by decide +kernel
theorem dL_isLanded_136 : decode cL_isLanded 136 = .ok (.ifCond .ne 25, 3) := by decide +kernel
theorem dL_isLanded_139 : decode cL_isLanded 139 = .ok (.iload 12, 2) := by decide +kernel
theorem dL_isLanded_141 : decode cL_isLanded 141 = .ok (.bipush (-7), 2) := by decide +kernel
theorem dL_isLanded_143 : decode cL_isLanded 143 = .ok (.if_icmp .ne 16, 3) := by decide +kernel
theorem dL_isLanded_146 : decode cL_isLanded 146 = .ok (.aload_n 0, 1) := by decide +kernel
theorem dL_isLanded_147 : decode cL_isLanded 147 = .ok (.invokevirtual 116, 3) := by decide +kernel
theorem dL_isLanded_150 : decode cL_isLanded 150 = .ok (.iload 8, 2) := by decide +kernel
theorem dL_isLanded_152 : decode cL_isLanded 152 = .ok (.if_icmp .ne 7, 3) := by decide +kernel
theorem dL_isLanded_155 : decode cL_isLanded 155 = .ok (.iconst 1, 1) := by decide +kernel
theorem dL_isLanded_156 : decode cL_isLanded 156 = .ok (.goto 4, 3) := by decide +kernel
theorem dL_isLanded_159 : decode cL_isLanded 159 = .ok (.iconst 0, 1) := by decide +kernel
theorem dL_isLanded_160 : decode cL_isLanded 160 = .ok (.ireturn, 1) := by decide +kernel
theorem dL_isLanded_161 : decode cL_isLanded 161 = .ok (.iload 12, 2) := by decide +kernel
theorem dL_isLanded_163 : decode cL_isLanded 163 = .ok (.bipush (-7), 2) := by decide +kernel
theorem dL_isLanded_165 : decode cL_isLanded 165 = .ok (.if_icmp .ne 24, 3) := by decide +kernel
theorem dL_isLanded_168 : decode cL_isLanded 168 = .ok (.iload 5, 2) := by decide +kernel
theorem dL_isLanded_170 : decode cL_isLanded 170 = .ok (.iconst 1, 1) := by decide +kernel
theorem dL_isLanded_171 : decode cL_isLanded 171 = .ok (.if_icmp .ne 16, 3) := by decide +kernel
theorem dL_isLanded_174 : decode cL_isLanded 174 = .ok (.aload_n 0, 1) := by decide +kernel
theorem dL_isLanded_175 : decode cL_isLanded 175 = .ok (.invokevirtual 116, 3) := by decide +kernel
theorem dL_isLanded_178 : decode cL_isLanded 178 = .ok (.iload 8, 2) := by decide +kernel
theorem dL_isLanded_180 : decode cL_isLanded 180 = .ok (.if_icmp .ne 7, 3) := by decide +kernel
theorem dL_isLanded_183 : decode cL_isLanded 183 = .ok (.iconst 1, 1) := by decide +kernel
theorem dL_isLanded_184 : decode cL_isLanded 184 = .ok (.goto 4, 3) := by decide +kernel
theorem dL_isLanded_187 : decode cL_isLanded 187 = .ok (.iconst 0, 1) := by decide +kernel
theorem dL_isLanded_188 : decode cL_isLanded 188 = .ok (.ireturn, 1) := by decide +kernel
theorem dL_isLanded_189 : decode cL_isLanded 189 = .ok (.aload_n 2, 1) := by decide +kernel
theorem dL_isLanded_190 : decode cL_isLanded 190 = .ok (.iload 8, 2) := by decide +kernel
theorem dL_isLanded_192 : decode cL_isLanded 192 = .ok (.iload 4, 2) := by decide +kernel
theorem dL_isLanded_194 : decode cL_isLanded 194 = .ok (.iastore, 1) := by decide +kernel
theorem dL_isLanded_195 : decode cL_isLanded 195 = .ok (.iload 12, 2) := by decide +kernel
theorem dL_isLanded_197 : decode cL_isLanded 197 = .ok (.iload 8, 2) := by decide +kernel
theorem dL_isLanded_199 : decode cL_isLanded 199 = .ok (.if_icmp .ne 41, 3) := by decide +kernel
theorem dL_isLanded_202 : decode cL_isLanded 202 = .ok (.aload_n 0, 1) := by decide +kernel
theorem dL_isLanded_203 : decode cL_isLanded 203 = .ok (.iload 8, 2) := by decide +kernel
theorem dL_isLanded_205 : decode cL_isLanded 205 = .ok (.invokevirtual 44, 3) := by decide +kernel
theorem dL_isLanded_208 : decode cL_isLanded 208 = .ok (.iconst 3, 1) := by decide +kernel
theorem dL_isLanded_209 : decode cL_isLanded 209 = .ok (.if_icmp .ne 31, 3) := by decide +kernel
theorem dL_isLanded_212 : decode cL_isLanded 212 = .ok (.aload_n 0, 1) := by decide +kernel
theorem dL_isLanded_213 : decode cL_isLanded 213 = .ok (.iload 8, 2) := by decide +kernel
theorem dL_isLanded_215 : decode cL_isLanded 215 = .ok (.invokevirtual 47, 3) := by decide +kernel
theorem dL_isLanded_218 : decode cL_isLanded 218 = .ok (.iload_n 3, 1) := by decide +kernel
theorem dL_isLanded_219 : decode cL_isLanded 219 = .ok (.if_icmp .ne 21, 3) := by decide +kernel
theorem dL_isLanded_222 : decode cL_isLanded 222 = .ok (.aload_n 0, 1) := by decide +kernel
theorem dL_isLanded_223 : decode cL_isLanded 223 = .ok (.invokestatic 173, 3) := by decide +kernel
theorem dL_isLanded_226 : decode cL_isLanded 226 = .ok (.lload 10, 2) := by decide +kernel
theorem dL_isLanded_228 : decode cL_isLanded 228 = .ok (.iload 4, 2) := by decide +kernel
theorem dL_isLanded_230 : decode cL_isLanded 230 = .ok (.i2l, 1) := by decide +kernel
theorem dL_isLanded_231 : decode cL_isLanded 231 = .ok (.ladd, 1) := by decide +kernel
theorem dL_isLanded_232 : decode cL_isLanded 232 = .ok (.lcmp, 1) := by decide +kernel
theorem dL_isLanded_233 : decode cL_isLanded 233 = .ok (.ifCond .ne 7, 3) := by decide +kernel
theorem dL_isLanded_236 : decode cL_isLanded 236 = .ok (.iconst 1, 1) := by decide +kernel
theorem dL_isLanded_237 : decode cL_isLanded 237 = .ok (.goto 4, 3) := by decide +kernel
theorem dL_isLanded_240 : decode cL_isLanded 240 = .ok (.iconst 0, 1) := by decide +kernel
theorem dL_isLanded_241 : decode cL_isLanded 241 = .ok (.ireturn, 1) := by decide +kernel
theorem dL_isCancelled_0 : decode cL_isCancelled 0 = .ok (.aload_n 0, 1) := by decide +kernel
theorem dL_isCancelled_1 : decode cL_isCancelled 1 = .ok (.iload_n 2, 1) := by decide +kernel
theorem dL_isCancelled_2 : decode cL_isCancelled 2 = .ok (.invokevirtual 53, 3) := by decide +kernel
theorem dL_isCancelled_5 : decode cL_isCancelled 5 = .ok (.istore_n 3, 1) := by decide +kernel
theorem dL_isCancelled_6 : decode cL_isCancelled 6 = .ok (.aload_n 0, 1) := by decide +kernel
theorem dL_isCancelled_7 : decode cL_isCancelled 7 = .ok (.iload_n 2, 1) := by decide +kernel
theorem dL_isCancelled_8 : decode cL_isCancelled 8 = .ok (.invokevirtual 47, 3) := by decide +kernel
theorem dL_isCancelled_11 : decode cL_isCancelled 11 = .ok (.aload_n 1, 1) := by decide +kernel
theorem dL_isCancelled_12 : decode cL_isCancelled 12 = .ok (.iconst 0, 1) := by decide +kernel
theorem dL_isCancelled_13 : decode cL_isCancelled 13 = .ok (.iaload, 1) := by decide +kernel
theorem dL_isCancelled_14 : decode cL_isCancelled 14 = .ok (.if_icmp .gt 7, 3) := by decide +kernel
theorem dL_isCancelled_17 : decode cL_isCancelled 17 = .ok (.iconst 1, 1) := by decide +kernel
theorem dL_isCancelled_18 : decode cL_isCancelled 18 = .ok (.goto 4, 3) := by decide +kernel
theorem dL_isCancelled_21 : decode cL_isCancelled 21 = .ok (.iconst 0, 1) := by decide +kernel
theorem dL_isCancelled_22 : decode cL_isCancelled 22 = .ok (.istore 4, 2) := by decide +kernel
theorem dL_isCancelled_24 : decode cL_isCancelled 24 = .ok (.aload_n 0, 1) := by decide +kernel
theorem dL_isCancelled_25 : decode cL_isCancelled 25 = .ok (.iload_n 2, 1) := by decide +kernel
theorem dL_isCancelled_26 : decode cL_isCancelled 26 = .ok (.invokevirtual 44, 3) := by decide +kernel
theorem dL_isCancelled_29 : decode cL_isCancelled 29 = .ok (.ifCond .ne 7, 3) := by decide +kernel
theorem dL_isCancelled_32 : decode cL_isCancelled 32 = .ok (.iconst 1, 1) := by decide +kernel
theorem dL_isCancelled_33 : decode cL_isCancelled 33 = .ok (.goto 4, 3) := by decide +kernel
theorem dL_isCancelled_36 : decode cL_isCancelled 36 = .ok (.iconst 0, 1) := by decide +kernel
theorem dL_isCancelled_37 : decode cL_isCancelled 37 = .ok (.istore 5, 2) := by decide +kernel
theorem dL_isCancelled_39 : decode cL_isCancelled 39 = .ok (.iconst 0, 1) := by decide +kernel
theorem dL_isCancelled_40 : decode cL_isCancelled 40 = .ok (.istore 6, 2) := by decide +kernel
theorem dL_isCancelled_42 : decode cL_isCancelled 42 = .ok (.iconst 0, 1) := by decide +kernel
theorem dL_isCancelled_43 : decode cL_isCancelled 43 = .ok (.istore 7, 2) := by decide +kernel
theorem dL_isCancelled_45 : decode cL_isCancelled 45 = .ok (.iload 7, 2) := by decide +kernel
theorem dL_isCancelled_47 : decode cL_isCancelled 47 = .ok (.aload_n 0, 1) := by decide +kernel
theorem dL_isCancelled_48 : decode cL_isCancelled 48 = .ok (.invokevirtual 116, 3) := by decide +kernel
theorem dL_isCancelled_51 : decode cL_isCancelled 51 = .ok (.if_icmp .ge 28, 3) := by decide +kernel
theorem dL_isCancelled_54 : decode cL_isCancelled 54 = .ok (.iload 6, 2) := by decide +kernel
theorem dL_isCancelled_56 : decode cL_isCancelled 56 = .ok (.aload_n 0, 1) := by decide +kernel
theorem dL_isCancelled_57 : decode cL_isCancelled 57 = .ok (.iload 7, 2) := by decide +kernel
theorem dL_isCancelled_59 : decode cL_isCancelled 59 = .ok (.invokevirtual 53, 3) := by decide +kernel
theorem dL_isCancelled_62 : decode cL_isCancelled 62 = .ok (.ifCond .eq 7, 3) := by decide +kernel
theorem dL_isCancelled_65 : decode cL_isCancelled 65 = .ok (.iconst 0, 1) := by decide +kernel
theorem dL_isCancelled_66 : decode cL_isCancelled 66 = .ok (.goto 4, 3) := by decide +kernel
theorem dL_isCancelled_69 : decode cL_isCancelled 69 = .ok (.iconst 1, 1) := by decide +kernel
theorem dL_isCancelled_70 : decode cL_isCancelled 70 = .ok (.iadd, 1) := by decide +kernel
theorem dL_isCancelled_71 : decode cL_isCancelled 71 = .ok (.istore 6, 2) := by decide +kernel
theorem dL_isCancelled_73 : decode cL_isCancelled 73 = .ok (.iinc 7 1, 3) := by decide +kernel
theorem dL_isCancelled_76 : decode cL_isCancelled 76 = .ok (.goto (-31), 3) := by decide +kernel
theorem dL_isCancelled_79 : decode cL_isCancelled 79 = .ok (.aload_n 0, 1) := by decide +kernel
theorem dL_isCancelled_80 : decode cL_isCancelled 80 = .ok (.invokestatic 146, 3) := by decide +kernel
theorem dL_isCancelled_83 : decode cL_isCancelled 83 = .ok (.lstore 7, 2) := by decide +kernel
theorem dL_isCancelled_85 : decode cL_isCancelled 85 = .ok (.aload_n 0, 1) := by decide +kernel
theorem dL_isCancelled_86 : decode cL_isCancelled 86 = .ok (.iload_n 2, 1) := by decide +kernel
theorem dL_isCancelled_87 : decode cL_isCancelled 87 = .ok (.invokestatic 163, 3) := by decide +kernel
theorem dL_isCancelled_90 : decode cL_isCancelled 90 = .ok (.istore 9, 2) := by decide +kernel
theorem dL_isCancelled_92 : decode cL_isCancelled 92 = .ok (.iload 9, 2) := by decide +kernel
theorem dL_isCancelled_94 : decode cL_isCancelled 94 = .ok (.ifCond .ge 40, 3) := by decide +kernel
theorem dL_isCancelled_97 : decode cL_isCancelled 97 = .ok (.iload 9, 2) := by decide +kernel
theorem dL_isCancelled_99 : decode cL_isCancelled 99 = .ok (.bipush (-7), 2) := by decide +kernel
theorem dL_isCancelled_101 : decode cL_isCancelled 101 = .ok (.if_icmp .ne 31, 3) := by decide +kernel
theorem dL_isCancelled_104 : decode cL_isCancelled 104 = .ok (.aload_n 0, 1) := by decide +kernel
theorem dL_isCancelled_105 : decode cL_isCancelled 105 = .ok (.invokestatic 146, 3) := by decide +kernel
theorem dL_isCancelled_108 : decode cL_isCancelled 108 = .ok (.lload 7, 2) := by decide +kernel
theorem dL_isCancelled_110 : decode cL_isCancelled 110 = .ok (.lcmp, 1) := by decide +kernel
theorem dL_isCancelled_111 : decode cL_isCancelled 111 = .ok (.ifCond .ne 21, 3) := by decide +kernel
theorem dL_isCancelled_114 : decode cL_isCancelled 114 = .ok (.iload_n 3, 1) := by decide +kernel
theorem dL_isCancelled_115 : decode cL_isCancelled 115 = .ok (.ifCond .ne 13, 3) := by decide +kernel
theorem dL_isCancelled_118 : decode cL_isCancelled 118 = .ok (.iload 4, 2) := by decide +kernel
theorem dL_isCancelled_120 : decode cL_isCancelled 120 = .ok (.ifCond .ne 8, 3) := by decide +kernel
theorem dL_isCancelled_123 : decode cL_isCancelled 123 = .ok (.iload 5, 2) := by decide +kernel
theorem dL_isCancelled_125 : decode cL_isCancelled 125 = .ok (.ifCond .eq 7, 3) := by decide +kernel
theorem dL_isCancelled_128 : decode cL_isCancelled 128 = .ok (.iconst 1, 1) := by decide +kernel
theorem dL_isCancelled_129 : decode cL_isCancelled 129 = .ok (.goto 4, 3) := by decide +kernel
theorem dL_isCancelled_132 : decode cL_isCancelled 132 = .ok (.iconst 0, 1) := by decide +kernel
theorem dL_isCancelled_133 : decode cL_isCancelled 133 = .ok (.ireturn, 1) := by decide +kernel
theorem dL_isCancelled_134 : decode cL_isCancelled 134 = .ok (.iload_n 3, 1) := by decide +kernel
theorem dL_isCancelled_135 : decode cL_isCancelled 135 = .ok (.ifCond .ne 48, 3) := by decide +kernel
theorem dL_isCancelled_138 : decode cL_isCancelled 138 = .ok (.iload 4, 2) := by decide +kernel
theorem dL_isCancelled_140 : decode cL_isCancelled 140 = .ok (.ifCond .ne 43, 3) := by decide +kernel
theorem dL_isCancelled_143 : decode cL_isCancelled 143 = .ok (.iload 9, 2) := by decide +kernel
theorem dL_isCancelled_145 : decode cL_isCancelled 145 = .ok (.iload 6, 2) := by decide +kernel
theorem dL_isCancelled_147 : decode cL_isCancelled 147 = .ok (.iconst 1, 1) := by decide +kernel
theorem dL_isCancelled_148 : decode cL_isCancelled 148 = .ok (.isub, 1) := by decide +kernel
theorem dL_isCancelled_149 : decode cL_isCancelled 149 = .ok (.if_icmp .ne 34, 3) := by decide +kernel
theorem dL_isCancelled_152 : decode cL_isCancelled 152 = .ok (.aload_n 0, 1) := by decide +kernel
theorem dL_isCancelled_153 : decode cL_isCancelled 153 = .ok (.iload_n 2, 1) := by decide +kernel
theorem dL_isCancelled_154 : decode cL_isCancelled 154 = .ok (.invokevirtual 53, 3) := by decide +kernel
theorem dL_isCancelled_157 : decode cL_isCancelled 157 = .ok (.ifCond .eq 26, 3) := by decide +kernel
theorem dL_isCancelled_160 : decode cL_isCancelled 160 = .ok (.aload_n 0, 1) := by decide +kernel
theorem dL_isCancelled_161 : decode cL_isCancelled 161 = .ok (.iload_n 2, 1) := by decide +kernel
theorem dL_isCancelled_162 : decode cL_isCancelled 162 = .ok (.invokevirtual 50, 3) := by decide +kernel
theorem dL_isCancelled_165 : decode cL_isCancelled 165 = .ok (.iconst (-1), 1) := by decide +kernel
theorem dL_isCancelled_166 : decode cL_isCancelled 166 = .ok (.if_icmp .ne 17, 3) := by decide +kernel
theorem dL_isCancelled_169 : decode cL_isCancelled 169 = .ok (.aload_n 0, 1) := by decide +kernel
theorem dL_isCancelled_170 : decode cL_isCancelled 170 = .ok (.iload_n 2, 1) := by decide +kernel
theorem dL_isCancelled_171 : decode cL_isCancelled 171 = .ok (.invokestatic 163, 3) := by decide +kernel
theorem dL_isCancelled_174 : decode cL_isCancelled 174 = .ok (.bipush (-7), 2) := by decide +kernel
theorem dL_isCancelled_176 : decode cL_isCancelled 176 = .ok (.if_icmp .ne 7, 3) := by decide +kernel
theorem dL_isCancelled_179 : decode cL_isCancelled 179 = .ok (.iconst 1, 1) := by decide +kernel
theorem dL_isCancelled_180 : decode cL_isCancelled 180 = .ok (.goto 4, 3) := by decide +kernel
theorem dL_isCancelled_183 : decode cL_isCancelled 183 = .ok (.iconst 0, 1) := by decide +kernel
theorem dL_isCancelled_184 : decode cL_isCancelled 184 = .ok (.ireturn, 1) := by decide +kernel
theorem dL_law_0 : decode cL_law 0 = .ok (.new 11, 3) := by decide +kernel
theorem dL_law_3 : decode cL_law 3 = .ok (.dup, 1) := by decide +kernel
theorem dL_law_4 : decode cL_law 4 = .ok (.invokespecial 176, 3) := by decide +kernel
theorem dL_law_7 : decode cL_law 7 = .ok (.astore_n 1, 1) := by decide +kernel
theorem dL_law_8 : decode cL_law 8 = .ok (.iconst 1, 1) := by decide +kernel
theorem dL_law_9 : decode cL_law 9 = .ok (.newarray .int, 2) := by decide +kernel
theorem dL_law_11 : decode cL_law 11 = .ok (.astore_n 2, 1) := by decide +kernel
theorem dL_law_12 : decode cL_law 12 = .ok (.bipush 60, 2) := by decide +kernel
theorem dL_law_14 : decode cL_law 14 = .ok (.newarray .int, 2) := by decide +kernel
theorem dL_law_16 : decode cL_law 16 = .ok (.astore_n 3, 1) := by decide +kernel
theorem dL_law_17 : decode cL_law 17 = .ok (.bipush 6, 2) := by decide +kernel
theorem dL_law_19 : decode cL_law 19 = .ok (.newarray .int, 2) := by decide +kernel
theorem dL_law_21 : decode cL_law 21 = .ok (.astore 4, 2) := by decide +kernel
theorem dL_law_23 : decode cL_law 23 = .ok (.aload_n 2, 1) := by decide +kernel
theorem dL_law_24 : decode cL_law 24 = .ok (.iconst 0, 1) := by decide +kernel
theorem dL_law_25 : decode cL_law 25 = .ok (.iconst (-1), 1) := by decide +kernel
theorem dL_law_26 : decode cL_law 26 = .ok (.iastore, 1) := by decide +kernel
theorem dL_law_27 : decode cL_law 27 = .ok (.iconst 0, 1) := by decide +kernel
theorem dL_law_28 : decode cL_law 28 = .ok (.istore 5, 2) := by decide +kernel
theorem dL_law_30 : decode cL_law 30 = .ok (.iload 5, 2) := by decide +kernel
theorem dL_law_32 : decode cL_law 32 = .ok (.bipush 6, 2) := by decide +kernel
theorem dL_law_34 : decode cL_law 34 = .ok (.if_icmp .ge 15, 3) := by decide +kernel
theorem dL_law_37 : decode cL_law 37 = .ok (.aload 4, 2) := by decide +kernel
theorem dL_law_39 : decode cL_law 39 = .ok (.iload 5, 2) := by decide +kernel
theorem dL_law_41 : decode cL_law 41 = .ok (.iconst 1, 1) := by decide +kernel
theorem dL_law_42 : decode cL_law 42 = .ok (.iastore, 1) := by decide +kernel
theorem dL_law_43 : decode cL_law 43 = .ok (.iinc 5 1, 3) := by decide +kernel
theorem dL_law_46 : decode cL_law 46 = .ok (.goto (-16), 3) := by decide +kernel
theorem dL_law_49 : decode cL_law 49 = .ok (.aload_n 1, 1) := by decide +kernel
theorem dL_law_50 : decode cL_law 50 = .ok (.invokevirtual 116, 3) := by decide +kernel
theorem dL_law_53 : decode cL_law 53 = .ok (.ifCond .ne 32, 3) := by decide +kernel
theorem dL_law_56 : decode cL_law 56 = .ok (.aload_n 1, 1) := by decide +kernel
theorem dL_law_57 : decode cL_law 57 = .ok (.iconst 0, 1) := by decide +kernel
theorem dL_law_58 : decode cL_law 58 = .ok (.iconst 0, 1) := by decide +kernel
theorem dL_law_59 : decode cL_law 59 = .ok (.invokestatic 177, 3) := by decide +kernel
theorem dL_law_62 : decode cL_law 62 = .ok (.ifCond .eq 23, 3) := by decide +kernel
theorem dL_law_65 : decode cL_law 65 = .ok (.aload_n 1, 1) := by decide +kernel
theorem dL_law_66 : decode cL_law 66 = .ok (.iconst 0, 1) := by decide +kernel
theorem dL_law_67 : decode cL_law 67 = .ok (.invokestatic 181, 3) := by decide +kernel
theorem dL_law_70 : decode cL_law 70 = .ok (.ifCond .eq 15, 3) := by decide +kernel
theorem dL_law_73 : decode cL_law 73 = .ok (.aload_n 1, 1) := by decide +kernel
theorem dL_law_74 : decode cL_law 74 = .ok (.iconst 1, 1) := by decide +kernel
theorem dL_law_75 : decode cL_law 75 = .ok (.invokestatic 181, 3) := by decide +kernel
theorem dL_law_78 : decode cL_law 78 = .ok (.ifCond .eq 7, 3) := by decide +kernel
theorem dL_law_81 : decode cL_law 81 = .ok (.iconst 1, 1) := by decide +kernel
theorem dL_law_82 : decode cL_law 82 = .ok (.goto 4, 3) := by decide +kernel
theorem dL_law_85 : decode cL_law 85 = .ok (.iconst 0, 1) := by decide +kernel
theorem dL_law_86 : decode cL_law 86 = .ok (.istore 5, 2) := by decide +kernel
theorem dL_law_88 : decode cL_law 88 = .ok (.iconst 0, 1) := by decide +kernel
theorem dL_law_89 : decode cL_law 89 = .ok (.istore 6, 2) := by decide +kernel
theorem dL_law_91 : decode cL_law 91 = .ok (.iload 6, 2) := by decide +kernel
theorem dL_law_93 : decode cL_law 93 = .ok (.bipush 70, 2) := by decide +kernel
theorem dL_law_95 : decode cL_law 95 = .ok (.if_icmp .ge 786, 3) := by decide +kernel
theorem dL_law_98 : decode cL_law 98 = .ok (.iload 5, 2) := by decide +kernel
theorem dL_law_100 : decode cL_law 100 = .ok (.ifCond .eq 781, 3) := by decide +kernel
theorem dL_law_103 : decode cL_law 103 = .ok (.aload_n 0, 1) := by decide +kernel
theorem dL_law_104 : decode cL_law 104 = .ok (.iload 6, 2) := by decide +kernel
theorem dL_law_106 : decode cL_law 106 = .ok (.invokestatic 185, 3) := by decide +kernel
theorem dL_law_109 : decode cL_law 109 = .ok (.istore 7, 2) := by decide +kernel
theorem dL_law_111 : decode cL_law 111 = .ok (.iload 7, 2) := by decide +kernel
theorem dL_law_113 : decode cL_law 113 = .ok (.bipush 32, 2) := by decide +kernel
theorem dL_law_115 : decode cL_law 115 = .ok (.idiv, 1) := by decide +kernel
theorem dL_law_116 : decode cL_law 116 = .ok (.istore 8, 2) := by decide +kernel
theorem dL_law_118 : decode cL_law 118 = .ok (.iload 7, 2) := by decide +kernel
theorem dL_law_120 : decode cL_law 120 = .ok (.bipush 32, 2) := by decide +kernel
theorem dL_law_122 : decode cL_law 122 = .ok (.irem, 1) := by decide +kernel
theorem dL_law_123 : decode cL_law 123 = .ok (.istore 9, 2) := by decide +kernel
theorem dL_law_125 : decode cL_law 125 = .ok (.iload 8, 2) := by decide +kernel
theorem dL_law_127 : decode cL_law 127 = .ok (.iconst 5, 1) := by decide +kernel
theorem dL_law_128 : decode cL_law 128 = .ok (.irem, 1) := by decide +kernel
theorem dL_law_129 : decode cL_law 129 = .ok (.iconst 3, 1) := by decide +kernel
theorem dL_law_130 : decode cL_law 130 = .ok (.if_icmp .ge 7, 3) := by decide +kernel
theorem dL_law_133 : decode cL_law 133 = .ok (.iconst 1, 1) := by decide +kernel
theorem dL_law_134 : decode cL_law 134 = .ok (.goto 8, 3) := by decide +kernel
theorem dL_law_137 : decode cL_law 137 = .ok (.iload 8, 2) := by decide +kernel
theorem dL_law_139 : decode cL_law 139 = .ok (.bipush 6, 2) := by decide +kernel
theorem dL_law_141 : decode cL_law 141 = .ok (.irem, 1) := by decide +kernel
theorem dL_law_142 : decode cL_law 142 = .ok (.istore 10, 2) := by decide +kernel
theorem dL_law_144 : decode cL_law 144 = .ok (.iload 8, 2) := by decide +kernel
theorem dL_law_146 : decode cL_law 146 = .ok (.bipush 30, 2) := by decide +kernel
theorem dL_law_148 : decode cL_law 148 = .ok (.idiv, 1) := by decide +kernel
theorem dL_law_149 : decode cL_law 149 = .ok (.iload 6, 2) := by decide +kernel
theorem dL_law_151 : decode cL_law 151 = .ok (.iconst 4, 1) := by decide +kernel
theorem dL_law_152 : decode cL_law 152 = .ok (.irem, 1) := by decide +kernel
theorem dL_law_153 : decode cL_law 153 = .ok (.ifCond .ne 9, 3) := by decide +kernel
theorem dL_law_156 : decode cL_law 156 = .ok (.sipush 365, 3) := by decide +kernel
theorem dL_law_159 : decode cL_law 159 = .ok (.goto 5, 3) := by decide +kernel
theorem dL_law_162 : decode cL_law 162 = .ok (.bipush 60, 2) := by decide +kernel
theorem dL_law_164 : decode cL_law 164 = .ok (.irem, 1) := by decide +kernel
theorem dL_law_165 : decode cL_law 165 = .ok (.istore 11, 2) := by decide +kernel
theorem dL_law_167 : decode cL_law 167 = .ok (.iconst 1, 1) := by decide +kernel
theorem dL_law_168 : decode cL_law 168 = .ok (.iload 8, 2) := by decide +kernel
theorem dL_law_170 : decode cL_law 170 = .ok (.sipush 11000, 3) := by decide +kernel
theorem dL_law_173 : decode cL_law 173 = .ok (.idiv, 1) := by decide +kernel
theorem dL_law_174 : decode cL_law 174 = .ok (.iload 8, 2) := by decide +kernel
theorem dL_law_176 : decode cL_law 176 = .ok (.iconst 4, 1) := by decide +kernel
theorem dL_law_177 : decode cL_law 177 = .ok (.irem, 1) := by decide +kernel
theorem dL_law_178 : decode cL_law 178 = .ok (.ifCond .ne 9, 3) := by decide +kernel
theorem dL_law_181 : decode cL_law 181 = .ok (.sipush 1000, 3) := by decide +kernel
theorem dL_law_184 : decode cL_law 184 = .ok (.goto 5, 3) := by decide +kernel
theorem dL_law_187 : decode cL_law 187 = .ok (.bipush 25, 2) := by decide +kernel
theorem dL_law_189 : decode cL_law 189 = .ok (.irem, 1) := by decide +kernel
theorem dL_law_190 : decode cL_law 190 = .ok (.iadd, 1) := by decide +kernel
theorem dL_law_191 : decode cL_law 191 = .ok (.istore 12, 2) := by decide +kernel
theorem dL_law_193 : decode cL_law 193 = .ok (.iload 8, 2) := by decide +kernel
theorem dL_law_195 : decode cL_law 195 = .ok (.sipush 700, 3) := by decide +kernel
theorem dL_law_198 : decode cL_law 198 = .ok (.idiv, 1) := by decide +kernel
theorem dL_law_199 : decode cL_law 199 = .ok (.iload 8, 2) := by decide +kernel
theorem dL_law_201 : decode cL_law 201 = .ok (.iconst 3, 1) := by decide +kernel
theorem dL_law_202 : decode cL_law 202 = .ok (.irem, 1) := by decide +kernel
theorem dL_law_203 : decode cL_law 203 = .ok (.ifCond .ne 8, 3) := by decide +kernel
theorem dL_law_206 : decode cL_law 206 = .ok (.ldc 145, 2) := by decide +kernel
theorem dL_law_208 : decode cL_law 208 = .ok (.goto 6, 3) := by decide +kernel
theorem dL_law_211 : decode cL_law 211 = .ok (.sipush 1200, 3) := by decide +kernel
theorem dL_law_214 : decode cL_law 214 = .ok (.irem, 1) := by decide +kernel
theorem dL_law_215 : decode cL_law 215 = .ok (.istore 13, 2) := by decide +kernel
theorem dL_law_217 : decode cL_law 217 = .ok (.iload 9, 2) := by decide +kernel
theorem dL_law_219 : decode cL_law 219 = .ok (.bipush 11, 2) := by decide +kernel
theorem dL_law_221 : decode cL_law 221 = .ok (.if_icmp .ge 22, 3) := by decide +kernel
theorem dL_law_224 : decode cL_law 224 = .ok (.aload_n 1, 1) := by decide +kernel
theorem dL_law_225 : decode cL_law 225 = .ok (.aload_n 2, 1) := by decide +kernel
theorem dL_law_226 : decode cL_law 226 = .ok (.iconst 0, 1) := by decide +kernel
theorem dL_law_227 : decode cL_law 227 = .ok (.iload 11, 2) := by decide +kernel
theorem dL_law_229 : decode cL_law 229 = .ok (.iload 10, 2) := by decide +kernel
theorem dL_law_231 : decode cL_law 231 = .ok (.iload 12, 2) := by decide +kernel
theorem dL_law_233 : decode cL_law 233 = .ok (.iload 13, 2) := by decide +kernel
theorem dL_law_235 : decode cL_law 235 = .ok (.invokestatic 189, 3) := by decide +kernel
theorem dL_law_238 : decode cL_law 238 = .ok (.istore 5, 2) := by decide +kernel
theorem dL_law_240 : decode cL_law 240 = .ok (.goto 544, 3) := by decide +kernel
theorem dL_law_243 : decode cL_law 243 = .ok (.iload 9, 2) := by decide +kernel
theorem dL_law_245 : decode cL_law 245 = .ok (.bipush 17, 2) := by decide +kernel
theorem dL_law_247 : decode cL_law 247 = .ok (.if_icmp .ge 70, 3) := by decide +kernel
theorem dL_law_250 : decode cL_law 250 = .ok (.aload_n 1, 1) := by decide +kernel
theorem dL_law_251 : decode cL_law 251 = .ok (.iload 10, 2) := by decide +kernel
theorem dL_law_253 : decode cL_law 253 = .ok (.iload 11, 2) := by decide +kernel
theorem dL_law_255 : decode cL_law 255 = .ok (.invokevirtual 83, 3) := by decide +kernel
theorem dL_law_258 : decode cL_law 258 = .ok (.istore 14, 2) := by decide +kernel
theorem dL_law_260 : decode cL_law 260 = .ok (.aload_n 1, 1) := by decide +kernel
theorem dL_law_261 : decode cL_law 261 = .ok (.aload_n 2, 1) := by decide +kernel
theorem dL_law_262 : decode cL_law 262 = .ok (.iconst 1, 1) := by decide +kernel
theorem dL_law_263 : decode cL_law 263 = .ok (.iload 11, 2) := by decide +kernel
theorem dL_law_265 : decode cL_law 265 = .ok (.iload 10, 2) := by decide +kernel
theorem dL_law_267 : decode cL_law 267 = .ok (.iload 9, 2) := by decide +kernel
theorem dL_law_269 : decode cL_law 269 = .ok (.bipush 13, 2) := by decide +kernel
theorem dL_law_271 : decode cL_law 271 = .ok (.if_icmp .ge 13, 3) := by decide +kernel
theorem dL_law_274 : decode cL_law 274 = .ok (.iload 14, 2) := by decide +kernel
theorem dL_law_276 : decode cL_law 276 = .ok (.ifCond .le 8, 3) := by decide +kernel
theorem dL_law_279 : decode cL_law 279 = .ok (.iload 14, 2) := by decide +kernel
theorem dL_law_281 : decode cL_law 281 = .ok (.goto 27, 3) := by decide +kernel
theorem dL_law_284 : decode cL_law 284 = .ok (.iload 9, 2) := by decide +kernel
theorem dL_law_286 : decode cL_law 286 = .ok (.bipush 15, 2) := by decide +kernel
theorem dL_law_288 : decode cL_law 288 = .ok (.if_icmp .ge 18, 3) := by decide +kernel
theorem dL_law_291 : decode cL_law 291 = .ok (.iload 14, 2) := by decide +kernel
theorem dL_law_293 : decode cL_law 293 = .ok (.sipush 1000, 3) := by decide +kernel
theorem dL_law_296 : decode cL_law 296 = .ok (.if_icmp .ge 10, 3) := by decide +kernel
theorem dL_law_299 : decode cL_law 299 = .ok (.iload 14, 2) := by decide +kernel
theorem dL_law_301 : decode cL_law 301 = .ok (.iconst 1, 1) := by decide +kernel
theorem dL_law_302 : decode cL_law 302 = .ok (.iadd, 1) := by decide +kernel
theorem dL_law_303 : decode cL_law 303 = .ok (.goto 5, 3) := by decide +kernel
theorem dL_law_306 : decode cL_law 306 = .ok (.iload 12, 2) := by decide +kernel
theorem dL_law_308 : decode cL_law 308 = .ok (.iconst 0, 1) := by decide +kernel
theorem dL_law_309 : decode cL_law 309 = .ok (.invokestatic 189, 3) := by decide +kernel
theorem dL_law_312 : decode cL_law 312 = .ok (.istore 5, 2) := by decide +kernel
theorem dL_law_314 : decode cL_law 314 = .ok (.goto 470, 3) := by decide +kernel
theorem dL_law_317 : decode cL_law 317 = .ok (.iload 9, 2) := by decide +kernel
theorem dL_law_319 : decode cL_law 319 = .ok (.bipush 21, 2) := by decide +kernel
theorem dL_law_321 : decode cL_law 321 = .ok (.if_icmp .ge 57, 3) := by decide +kernel
theorem dL_law_324 : decode cL_law 324 = .ok (.aload_n 1, 1) := by decide +kernel
theorem dL_law_325 : decode cL_law 325 = .ok (.iload 10, 2) := by decide +kernel
theorem dL_law_327 : decode cL_law 327 = .ok (.iload 11, 2) := by decide +kernel
theorem dL_law_329 : decode cL_law 329 = .ok (.invokevirtual 80, 3) := by decide +kernel
theorem dL_law_332 : decode cL_law 332 = .ok (.istore 14, 2) := by decide +kernel
theorem dL_law_334 : decode cL_law 334 = .ok (.aload_n 1, 1) := by decide +kernel
theorem dL_law_335 : decode cL_law 335 = .ok (.aload_n 2, 1) := by decide +kernel
theorem dL_law_336 : decode cL_law 336 = .ok (.iconst 2, 1) := by decide +kernel
theorem dL_law_337 : decode cL_law 337 = .ok (.iload 11, 2) := by decide +kernel
theorem dL_law_339 : decode cL_law 339 = .ok (.iload 10, 2) := by decide +kernel
theorem dL_law_341 : decode cL_law 341 = .ok (.iload 9, 2) := by decide +kernel
theorem dL_law_343 : decode cL_law 343 = .ok (.bipush 19, 2) := by decide +kernel
theorem dL_law_345 : decode cL_law 345 = .ok (.if_icmp .ge 21, 3) := by decide +kernel
theorem dL_law_348 : decode cL_law 348 = .ok (.iload 14, 2) := by decide +kernel
theorem dL_law_350 : decode cL_law 350 = .ok (.ifCond .le 16, 3) := by decide +kernel
theorem dL_law_353 : decode cL_law 353 = .ok (.iload 14, 2) := by decide +kernel
theorem dL_law_355 : decode cL_law 355 = .ok (.sipush 1001, 3) := by decide +kernel
theorem dL_law_358 : decode cL_law 358 = .ok (.if_icmp .ge 8, 3) := by decide +kernel
theorem dL_law_361 : decode cL_law 361 = .ok (.iload 14, 2) := by decide +kernel
theorem dL_law_363 : decode cL_law 363 = .ok (.goto 5, 3) := by decide +kernel
theorem dL_law_366 : decode cL_law 366 = .ok (.iload 12, 2) := by decide +kernel
theorem dL_law_368 : decode cL_law 368 = .ok (.iload 13, 2) := by decide +kernel
theorem dL_law_370 : decode cL_law 370 = .ok (.invokestatic 189, 3) := by decide +kernel
theorem dL_law_373 : decode cL_law 373 = .ok (.istore 5, 2) := by decide +kernel
theorem dL_law_375 : decode cL_law 375 = .ok (.goto 409, 3) := by decide +kernel
theorem dL_law_378 : decode cL_law 378 = .ok (.iload 9, 2) := by decide +kernel
theorem dL_law_380 : decode cL_law 380 = .ok (.bipush 26, 2) := by decide +kernel
theorem dL_law_382 : decode cL_law 382 = .ok (.if_icmp .ge 145, 3) := by decide +kernel
theorem dL_law_385 : decode cL_law 385 = .ok (.lconst 0, 1) := by decide +kernel
theorem dL_law_386 : decode cL_law 386 = .ok (.lstore 14, 2) := by decide +kernel
theorem dL_law_388 : decode cL_law 388 = .ok (.iconst 0, 1) := by decide +kernel
theorem dL_law_389 : decode cL_law 389 = .ok (.istore 16, 2) := by decide +kernel
theorem dL_law_391 : decode cL_law 391 = .ok (.iload 16, 2) := by decide +kernel
theorem dL_law_393 : decode cL_law 393 = .ok (.aload_n 1, 1) := by decide +kernel
theorem dL_law_394 : decode cL_law 394 = .ok (.invokevirtual 116, 3) := by decide +kernel
theorem dL_law_397 : decode cL_law 397 = .ok (.if_icmp .ge 86, 3) := by decide +kernel
theorem dL_law_400 : decode cL_law 400 = .ok (.aload_n 1, 1) := by decide +kernel
theorem dL_law_401 : decode cL_law 401 = .ok (.iload 16, 2) := by decide +kernel
theorem dL_law_403 : decode cL_law 403 = .ok (.invokevirtual 53, 3) := by decide +kernel
theorem dL_law_406 : decode cL_law 406 = .ok (.ifCond .ne 27, 3) := by decide +kernel
theorem dL_law_409 : decode cL_law 409 = .ok (.aload_n 1, 1) := by decide +kernel
theorem dL_law_410 : decode cL_law 410 = .ok (.iload 16, 2) := by decide +kernel
theorem dL_law_412 : decode cL_law 412 = .ok (.invokevirtual 44, 3) := by decide +kernel
theorem dL_law_415 : decode cL_law 415 = .ok (.ifCond .ne 18, 3) := by decide +kernel
theorem dL_law_418 : decode cL_law 418 = .ok (.aload_n 1, 1) := by decide +kernel
theorem dL_law_419 : decode cL_law 419 = .ok (.iload 16, 2) := by decide +kernel
theorem dL_law_421 : decode cL_law 421 = .ok (.invokevirtual 47, 3) := by decide +kernel
theorem dL_law_424 : decode cL_law 424 = .ok (.iload 11, 2) := by decide +kernel
theorem dL_law_426 : decode cL_law 426 = .ok (.if_icmp .gt 7, 3) := by decide +kernel
theorem dL_law_429 : decode cL_law 429 = .ok (.iconst 1, 1) := by decide +kernel
theorem dL_law_430 : decode cL_law 430 = .ok (.goto 4, 3) := by decide +kernel
theorem dL_law_433 : decode cL_law 433 = .ok (.iconst 0, 1) := by decide +kernel
theorem dL_law_434 : decode cL_law 434 = .ok (.istore 17, 2) := by decide +kernel
theorem dL_law_436 : decode cL_law 436 = .ok (.lload 14, 2) := by decide +kernel
theorem dL_law_438 : decode cL_law 438 = .ok (.iload 17, 2) := by decide +kernel
theorem dL_law_440 : decode cL_law 440 = .ok (.ifCond .ne 11, 3) := by decide +kernel
theorem dL_law_443 : decode cL_law 443 = .ok (.iload 8, 2) := by decide +kernel
theorem dL_law_445 : decode cL_law 445 = .ok (.bipush 13, 2) := by decide +kernel
theorem dL_law_447 : decode cL_law 447 = .ok (.irem, 1) := by decide +kernel
theorem dL_law_448 : decode cL_law 448 = .ok (.ifCond .ne 25, 3) := by decide +kernel
theorem dL_law_451 : decode cL_law 451 = .ok (.iload 8, 2) := by decide +kernel
theorem dL_law_453 : decode cL_law 453 = .ok (.bipush 30, 2) := by decide +kernel
theorem dL_law_455 : decode cL_law 455 = .ok (.idiv, 1) := by decide +kernel
