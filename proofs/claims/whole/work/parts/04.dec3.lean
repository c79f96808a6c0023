theorem dX8_moves_75 : decode cX8_moves 75 = .ok (.aload_n 0, 1) := by decide +kernel
theorem dX8_moves_76 : decode cX8_moves 76 = .ok (.dup, 1) := by decide +kernel
theorem dX8_moves_77 : decode cX8_moves 77 = .ok (.getfield 171, 3) := by decide +kernel
theorem dX8_moves_80 : decode cX8_moves 80 = .ok (.aload_n 0, 1) := by decide +kernel
theorem dX8_moves_81 : decode cX8_moves 81 = .ok (.getfield 22, 3) := by decide +kernel
theorem dX8_moves_84 : decode cX8_moves 84 = .ok (.iload_n 1, 1) := by decide +kernel
theorem dX8_moves_85 : decode cX8_moves 85 = .ok (.iaload, 1) := by decide +kernel
theorem dX8_moves_86 : decode cX8_moves 86 = .ok (.i2l, 1) := by decide +kernel
theorem dX8_moves_87 : decode cX8_moves 87 = .ok (.ladd, 1) := by decide +kernel
theorem dX8_moves_88 : decode cX8_moves 88 = .ok (.putfield 171, 3) := by decide +kernel
theorem dX8_moves_91 : decode cX8_moves 91 = .ok (.goto 101, 3) := by decide +kernel
theorem dX8_moves_94 : decode cX8_moves 94 = .ok (.aload_n 0, 1) := by decide +kernel
theorem dX8_moves_95 : decode cX8_moves 95 = .ok (.getfield 7, 3) := by decide +kernel
theorem dX8_moves_98 : decode cX8_moves 98 = .ok (.iload_n 1, 1) := by decide +kernel
theorem dX8_moves_99 : decode cX8_moves 99 = .ok (.iaload, 1) := by decide +kernel
theorem dX8_moves_100 : decode cX8_moves 100 = .ok (.iconst 1, 1) := by decide +kernel
theorem dX8_moves_101 : decode cX8_moves 101 = .ok (.if_icmp .ne 48, 3) := by decide +kernel
theorem dX8_moves_104 : decode cX8_moves 104 = .ok (.aload_n 0, 1) := by decide +kernel
theorem dX8_moves_105 : decode cX8_moves 105 = .ok (.getfield 46, 3) := by decide +kernel
theorem dX8_moves_108 : decode cX8_moves 108 = .ok (.iconst 0, 1) := by decide +kernel
theorem dX8_moves_109 : decode cX8_moves 109 = .ok (.dup2, 1) := by decide +kernel
theorem dX8_moves_110 : decode cX8_moves 110 = .ok (.laload, 1) := by decide +kernel
theorem dX8_moves_111 : decode cX8_moves 111 = .ok (.lload_n 2, 1) := by decide +kernel
theorem dX8_moves_112 : decode cX8_moves 112 = .ok (.ladd, 1) := by decide +kernel
theorem dX8_moves_113 : decode cX8_moves 113 = .ok (.lastore, 1) := by decide +kernel
theorem dX8_moves_114 : decode cX8_moves 114 = .ok (.aload_n 0, 1) := by decide +kernel
theorem dX8_moves_115 : decode cX8_moves 115 = .ok (.getfield 46, 3) := by decide +kernel
theorem dX8_moves_118 : decode cX8_moves 118 = .ok (.iconst 1, 1) := by decide +kernel
theorem dX8_moves_119 : decode cX8_moves 119 = .ok (.dup2, 1) := by decide +kernel
theorem dX8_moves_120 : decode cX8_moves 120 = .ok (.laload, 1) := by decide +kernel
theorem dX8_moves_121 : decode cX8_moves 121 = .ok (.lload 4, 2) := by decide +kernel
theorem dX8_moves_123 : decode cX8_moves 123 = .ok (.ladd, 1) := by decide +kernel
theorem dX8_moves_124 : decode cX8_moves 124 = .ok (.lastore, 1) := by decide +kernel
theorem dX8_moves_125 : decode cX8_moves 125 = .ok (.aload_n 0, 1) := by decide +kernel
theorem dX8_moves_126 : decode cX8_moves 126 = .ok (.getfield 55, 3) := by decide +kernel
theorem dX8_moves_129 : decode cX8_moves 129 = .ok (.iconst 2, 1) := by decide +kernel
theorem dX8_moves_130 : decode cX8_moves 130 = .ok (.iload_n 1, 1) := by decide +kernel
theorem dX8_moves_131 : decode cX8_moves 131 = .ok (.imul, 1) := by decide +kernel
theorem dX8_moves_132 : decode cX8_moves 132 = .ok (.lload_n 2, 1) := by decide +kernel
theorem dX8_moves_133 : decode cX8_moves 133 = .ok (.lastore, 1) := by decide +kernel
theorem dX8_moves_134 : decode cX8_moves 134 = .ok (.aload_n 0, 1) := by decide +kernel
theorem dX8_moves_135 : decode cX8_moves 135 = .ok (.getfield 55, 3) := by decide +kernel
theorem dX8_moves_138 : decode cX8_moves 138 = .ok (.iconst 2, 1) := by decide +kernel
theorem dX8_moves_139 : decode cX8_moves 139 = .ok (.iload_n 1, 1) := by decide +kernel
theorem dX8_moves_140 : decode cX8_moves 140 = .ok (.imul, 1) := by decide +kernel
theorem dX8_moves_141 : decode cX8_moves 141 = .ok (.iconst 1, 1) := by decide +kernel
theorem dX8_moves_142 : decode cX8_moves 142 = .ok (.iadd, 1) := by decide +kernel
theorem dX8_moves_143 : decode cX8_moves 143 = .ok (.lload 4, 2) := by decide +kernel
theorem dX8_moves_145 : decode cX8_moves 145 = .ok (.lastore, 1) := by decide +kernel
theorem dX8_moves_146 : decode cX8_moves 146 = .ok (.goto 46, 3) := by decide +kernel
theorem dX8_moves_149 : decode cX8_moves 149 = .ok (.aload_n 0, 1) := by decide +kernel
theorem dX8_moves_150 : decode cX8_moves 150 = .ok (.iconst 0, 1) := by decide +kernel
theorem dX8_moves_151 : decode cX8_moves 151 = .ok (.iload_n 1, 1) := by decide +kernel
theorem dX8_moves_152 : decode cX8_moves 152 = .ok (.invokevirtual 185, 3) := by decide +kernel
theorem dX8_moves_155 : decode cX8_moves 155 = .ok (.aload_n 0, 1) := by decide +kernel
theorem dX8_moves_156 : decode cX8_moves 156 = .ok (.getfield 49, 3) := by decide +kernel
theorem dX8_moves_159 : decode cX8_moves 159 = .ok (.iconst 0, 1) := by decide +kernel
theorem dX8_moves_160 : decode cX8_moves 160 = .ok (.dup2, 1) := by decide +kernel
theorem dX8_moves_161 : decode cX8_moves 161 = .ok (.laload, 1) := by decide +kernel
theorem dX8_moves_162 : decode cX8_moves 162 = .ok (.aload_n 0, 1) := by decide +kernel
theorem dX8_moves_163 : decode cX8_moves 163 = .ok (.getfield 22, 3) := by decide +kernel
theorem dX8_moves_166 : decode cX8_moves 166 = .ok (.iload_n 1, 1) := by decide +kernel
theorem dX8_moves_167 : decode cX8_moves 167 = .ok (.iaload, 1) := by decide +kernel
theorem dX8_moves_168 : decode cX8_moves 168 = .ok (.i2l, 1) := by decide +kernel
theorem dX8_moves_169 : decode cX8_moves 169 = .ok (.lload_n 2, 1) := by decide +kernel
theorem dX8_moves_170 : decode cX8_moves 170 = .ok (.lsub, 1) := by decide +kernel
theorem dX8_moves_171 : decode cX8_moves 171 = .ok (.ladd, 1) := by decide +kernel
theorem dX8_moves_172 : decode cX8_moves 172 = .ok (.lastore, 1) := by decide +kernel
theorem dX8_moves_173 : decode cX8_moves 173 = .ok (.aload_n 0, 1) := by decide +kernel
theorem dX8_moves_174 : decode cX8_moves 174 = .ok (.getfield 49, 3) := by decide +kernel
theorem dX8_moves_177 : decode cX8_moves 177 = .ok (.iconst 1, 1) := by decide +kernel
theorem dX8_moves_178 : decode cX8_moves 178 = .ok (.dup2, 1) := by decide +kernel
theorem dX8_moves_179 : decode cX8_moves 179 = .ok (.laload, 1) := by decide +kernel
theorem dX8_moves_180 : decode cX8_moves 180 = .ok (.aload_n 0, 1) := by decide +kernel
theorem dX8_moves_181 : decode cX8_moves 181 = .ok (.getfield 22, 3) := by decide +kernel
theorem dX8_moves_184 : decode cX8_moves 184 = .ok (.iload_n 1, 1) := by decide +kernel
theorem dX8_moves_185 : decode cX8_moves 185 = .ok (.iaload, 1) := by decide +kernel
theorem dX8_moves_186 : decode cX8_moves 186 = .ok (.i2l, 1) := by decide +kernel
theorem dX8_moves_187 : decode cX8_moves 187 = .ok (.lload 4, 2) := by decide +kernel
theorem dX8_moves_189 : decode cX8_moves 189 = .ok (.lsub, 1) := by decide +kernel
theorem dX8_moves_190 : decode cX8_moves 190 = .ok (.ladd, 1) := by decide +kernel
theorem dX8_moves_191 : decode cX8_moves 191 = .ok (.lastore, 1) := by decide +kernel
theorem dX8_moves_192 : decode cX8_moves 192 = .ok (.aload_n 0, 1) := by decide +kernel
theorem dX8_moves_193 : decode cX8_moves 193 = .ok (.dup, 1) := by decide +kernel
theorem dX8_moves_194 : decode cX8_moves 194 = .ok (.getfield 178, 3) := by decide +kernel
theorem dX8_moves_197 : decode cX8_moves 197 = .ok (.aload_n 0, 1) := by decide +kernel
theorem dX8_moves_198 : decode cX8_moves 198 = .ok (.getfield 22, 3) := by decide +kernel
theorem dX8_moves_201 : decode cX8_moves 201 = .ok (.iload_n 1, 1) := by decide +kernel
theorem dX8_moves_202 : decode cX8_moves 202 = .ok (.iaload, 1) := by decide +kernel
theorem dX8_moves_203 : decode cX8_moves 203 = .ok (.i2l, 1) := by decide +kernel
theorem dX8_moves_204 : decode cX8_moves 204 = .ok (.lload 4, 2) := by decide +kernel
theorem dX8_moves_206 : decode cX8_moves 206 = .ok (.lsub, 1) := by decide +kernel
theorem dX8_moves_207 : decode cX8_moves 207 = .ok (.ladd, 1) := by decide +kernel
theorem dX8_moves_208 : decode cX8_moves 208 = .ok (.putfield 178, 3) := by decide +kernel
theorem dX8_moves_211 : decode cX8_moves 211 = .ok (.aload_n 0, 1) := by decide +kernel
theorem dX8_moves_212 : decode cX8_moves 212 = .ok (.dup, 1) := by decide +kernel
theorem dX8_moves_213 : decode cX8_moves 213 = .ok (.getfield 175, 3) := by decide +kernel
theorem dX8_moves_216 : decode cX8_moves 216 = .ok (.aload_n 0, 1) := by decide +kernel
theorem dX8_moves_217 : decode cX8_moves 217 = .ok (.iload_n 1, 1) := by decide +kernel
theorem dX8_moves_218 : decode cX8_moves 218 = .ok (.aload_n 0, 1) := by decide +kernel
theorem dX8_moves_219 : decode cX8_moves 219 = .ok (.getfield 16, 3) := by decide +kernel
theorem dX8_moves_222 : decode cX8_moves 222 = .ok (.iload_n 1, 1) := by decide +kernel
theorem dX8_moves_223 : decode cX8_moves 223 = .ok (.iaload, 1) := by decide +kernel
theorem dX8_moves_224 : decode cX8_moves 224 = .ok (.invokevirtual 90, 3) := by decide +kernel
theorem dX8_moves_227 : decode cX8_moves 227 = .ok (.iadd, 1) := by decide +kernel
theorem dX8_moves_228 : decode cX8_moves 228 = .ok (.putfield 175, 3) := by decide +kernel
theorem dX8_moves_231 : decode cX8_moves 231 = .ok (.return_, 1) := by decide +kernel
theorem dX8_walks_0 : decode cX8_walks 0 = .ok (.aload_n 0, 1) := by decide +kernel
theorem dX8_walks_1 : decode cX8_walks 1 = .ok (.iconst 0, 1) := by decide +kernel
theorem dX8_walks_2 : decode cX8_walks 2 = .ok (.putfield 175, 3) := by decide +kernel
theorem dX8_walks_5 : decode cX8_walks 5 = .ok (.aload_n 0, 1) := by decide +kernel
theorem dX8_walks_6 : decode cX8_walks 6 = .ok (.lconst 0, 1) := by decide +kernel
theorem dX8_walks_7 : decode cX8_walks 7 = .ok (.putfield 178, 3) := by decide +kernel
theorem dX8_walks_10 : decode cX8_walks 10 = .ok (.aload_n 0, 1) := by decide +kernel
theorem dX8_walks_11 : decode cX8_walks 11 = .ok (.lconst 0, 1) := by decide +kernel
theorem dX8_walks_12 : decode cX8_walks 12 = .ok (.putfield 171, 3) := by decide +kernel
theorem dX8_walks_15 : decode cX8_walks 15 = .ok (.aload_n 0, 1) := by decide +kernel
theorem dX8_walks_16 : decode cX8_walks 16 = .ok (.iconst 0, 1) := by decide +kernel
theorem dX8_walks_17 : decode cX8_walks 17 = .ok (.putfield 161, 3) := by decide +kernel
theorem dX8_walks_20 : decode cX8_walks 20 = .ok (.iconst 0, 1) := by decide +kernel
theorem dX8_walks_21 : decode cX8_walks 21 = .ok (.istore_n 3, 1) := by decide +kernel
theorem dX8_walks_22 : decode cX8_walks 22 = .ok (.iload_n 3, 1) := by decide +kernel
theorem dX8_walks_23 : decode cX8_walks 23 = .ok (.iconst 2, 1) := by decide +kernel
theorem dX8_walks_24 : decode cX8_walks 24 = .ok (.if_icmp .ge 30, 3) := by decide +kernel
theorem dX8_walks_27 : decode cX8_walks 27 = .ok (.aload_n 0, 1) := by decide +kernel
theorem dX8_walks_28 : decode cX8_walks 28 = .ok (.getfield 46, 3) := by decide +kernel
theorem dX8_walks_31 : decode cX8_walks 31 = .ok (.iload_n 3, 1) := by decide +kernel
theorem dX8_walks_32 : decode cX8_walks 32 = .ok (.lconst 0, 1) := by decide +kernel
theorem dX8_walks_33 : decode cX8_walks 33 = .ok (.lastore, 1) := by decide +kernel
theorem dX8_walks_34 : decode cX8_walks 34 = .ok (.aload_n 0, 1) := by decide +kernel
theorem dX8_walks_35 : decode cX8_walks 35 = .ok (.getfield 49, 3) := by decide +kernel
theorem dX8_walks_38 : decode cX8_walks 38 = .ok (.iload_n 3, 1) := by decide +kernel
theorem dX8_walks_39 : decode cX8_walks 39 = .ok (.lconst 0, 1) := by decide +kernel
theorem dX8_walks_40 : decode cX8_walks 40 = .ok (.lastore, 1) := by decide +kernel
theorem dX8_walks_41 : decode cX8_walks 41 = .ok (.aload_n 0, 1) := by decide +kernel
theorem dX8_walks_42 : decode cX8_walks 42 = .ok (.getfield 52, 3) := by decide +kernel
theorem dX8_walks_45 : decode cX8_walks 45 = .ok (.iload_n 3, 1) := by decide +kernel
theorem dX8_walks_46 : decode cX8_walks 46 = .ok (.lconst 0, 1) := by decide +kernel
theorem dX8_walks_47 : decode cX8_walks 47 = .ok (.lastore, 1) := by decide +kernel
theorem dX8_walks_48 : decode cX8_walks 48 = .ok (.iinc 3 1, 3) := by decide +kernel
theorem dX8_walks_51 : decode cX8_walks 51 = .ok (.goto (-29), 3) := by decide +kernel
theorem dX8_walks_54 : decode cX8_walks 54 = .ok (.aload_n 0, 1) := by decide +kernel
theorem dX8_walks_55 : decode cX8_walks 55 = .ok (.invokevirtual 83, 3) := by decide +kernel
theorem dX8_walks_58 : decode cX8_walks 58 = .ok (.iconst 0, 1) := by decide +kernel
theorem dX8_walks_59 : decode cX8_walks 59 = .ok (.istore_n 3, 1) := by decide +kernel
theorem dX8_walks_60 : decode cX8_walks 60 = .ok (.iload_n 3, 1) := by decide +kernel
theorem dX8_walks_61 : decode cX8_walks 61 = .ok (.aload_n 0, 1) := by decide +kernel
theorem dX8_walks_62 : decode cX8_walks 62 = .ok (.getfield 80, 3) := by decide +kernel
theorem dX8_walks_65 : decode cX8_walks 65 = .ok (.if_icmp .ge 134, 3) := by decide +kernel
theorem dX8_walks_68 : decode cX8_walks 68 = .ok (.aload_n 0, 1) := by decide +kernel
theorem dX8_walks_69 : decode cX8_walks 69 = .ok (.getfield 13, 3) := by decide +kernel
theorem dX8_walks_72 : decode cX8_walks 72 = .ok (.aload_n 0, 1) := by decide +kernel
theorem dX8_walks_73 : decode cX8_walks 73 = .ok (.getfield 43, 3) := by decide +kernel
theorem dX8_walks_76 : decode cX8_walks 76 = .ok (.iload_n 3, 1) := by decide +kernel
theorem dX8_walks_77 : decode cX8_walks 77 = .ok (.iaload, 1) := by decide +kernel
theorem dX8_walks_78 : decode cX8_walks 78 = .ok (.iaload, 1) := by decide +kernel
theorem dX8_walks_79 : decode cX8_walks 79 = .ok (.iload_n 2, 1) := by decide +kernel
theorem dX8_walks_80 : decode cX8_walks 80 = .ok (.if_icmp .gt 119, 3) := by decide +kernel
theorem dX8_walks_83 : decode cX8_walks 83 = .ok (.aload_n 0, 1) := by decide +kernel
theorem dX8_walks_84 : decode cX8_walks 84 = .ok (.getfield 43, 3) := by decide +kernel
theorem dX8_walks_87 : decode cX8_walks 87 = .ok (.iload_n 3, 1) := by decide +kernel
theorem dX8_walks_88 : decode cX8_walks 88 = .ok (.iaload, 1) := by decide +kernel
theorem dX8_walks_89 : decode cX8_walks 89 = .ok (.istore 4, 2) := by decide +kernel
theorem dX8_walks_91 : decode cX8_walks 91 = .ok (.iconst 0, 1) := by decide +kernel
theorem dX8_walks_92 : decode cX8_walks 92 = .ok (.istore 5, 2) := by decide +kernel
theorem dX8_walks_94 : decode cX8_walks 94 = .ok (.iload 5, 2) := by decide +kernel
theorem dX8_walks_96 : decode cX8_walks 96 = .ok (.aload_n 0, 1) := by decide +kernel
theorem dX8_walks_97 : decode cX8_walks 97 = .ok (.getfield 77, 3) := by decide +kernel
theorem dX8_walks_100 : decode cX8_walks 100 = .ok (.if_icmp .ge 65, 3) := by decide +kernel
theorem dX8_walks_103 : decode cX8_walks 103 = .ok (.aload_n 0, 1) := by decide +kernel
theorem dX8_walks_104 : decode cX8_walks 104 = .ok (.getfield 7, 3) := by decide +kernel
theorem dX8_walks_107 : decode cX8_walks 107 = .ok (.iload 4, 2) := by decide +kernel
theorem dX8_walks_109 : decode cX8_walks 109 = .ok (.iaload, 1) := by decide +kernel
theorem dX8_walks_110 : decode cX8_walks 110 = .ok (.iconst 3, 1) := by decide +kernel
theorem dX8_walks_111 : decode cX8_walks 111 = .ok (.if_icmp .ne 54, 3) := by decide +kernel
theorem dX8_walks_114 : decode cX8_walks 114 = .ok (.aload_n 0, 1) := by decide +kernel
theorem dX8_walks_115 : decode cX8_walks 115 = .ok (.getfield 29, 3) := by decide +kernel
theorem dX8_walks_118 : decode cX8_walks 118 = .ok (.iload 4, 2) := by decide +kernel
theorem dX8_walks_120 : decode cX8_walks 120 = .ok (.laload, 1) := by decide +kernel
theorem dX8_walks_121 : decode cX8_walks 121 = .ok (.iload 5, 2) := by decide +kernel
theorem dX8_walks_123 : decode cX8_walks 123 = .ok (.invokestatic 123, 3) := by decide +kernel
theorem dX8_walks_126 : decode cX8_walks 126 = .ok (.ifCond .eq 33, 3) := by decide +kernel
theorem dX8_walks_129 : decode cX8_walks 129 = .ok (.aload_n 0, 1) := by decide +kernel
theorem dX8_walks_130 : decode cX8_walks 130 = .ok (.getfield 16, 3) := by decide +kernel
theorem dX8_walks_133 : decode cX8_walks 133 = .ok (.iload 5, 2) := by decide +kernel
theorem dX8_walks_135 : decode cX8_walks 135 = .ok (.iaload, 1) := by decide +kernel
theorem dX8_walks_136 : decode cX8_walks 136 = .ok (.iload_n 1, 1) := by decide +kernel
theorem dX8_walks_137 : decode cX8_walks 137 = .ok (.if_icmp .ne 22, 3) := by decide +kernel
theorem dX8_walks_140 : decode cX8_walks 140 = .ok (.aload_n 0, 1) := by decide +kernel
theorem dX8_walks_141 : decode cX8_walks 141 = .ok (.aload_n 0, 1) := by decide +kernel
theorem dX8_walks_142 : decode cX8_walks 142 = .ok (.getfield 33, 3) := by decide +kernel
theorem dX8_walks_145 : decode cX8_walks 145 = .ok (.bipush 60, 2) := by decide +kernel
theorem dX8_walks_147 : decode cX8_walks 147 = .ok (.iload 4, 2) := by decide +kernel
theorem dX8_walks_149 : decode cX8_walks 149 = .ok (.imul, 1) := by decide +kernel
theorem dX8_walks_150 : decode cX8_walks 150 = .ok (.iload 5, 2) := by decide +kernel
theorem dX8_walks_152 : decode cX8_walks 152 = .ok (.iadd, 1) := by decide +kernel
theorem dX8_walks_153 : decode cX8_walks 153 = .ok (.iaload, 1) := by decide +kernel
theorem dX8_walks_154 : decode cX8_walks 154 = .ok (.iload 5, 2) := by decide +kernel
theorem dX8_walks_156 : decode cX8_walks 156 = .ok (.invokevirtual 189, 3) := by decide +kernel
theorem dX8_walks_159 : decode cX8_walks 159 = .ok (.iinc 5 1, 3) := by decide +kernel
theorem dX8_walks_162 : decode cX8_walks 162 = .ok (.goto (-68), 3) := by decide +kernel
theorem dX8_walks_165 : decode cX8_walks 165 = .ok (.aload_n 0, 1) := by decide +kernel
theorem dX8_walks_166 : decode cX8_walks 166 = .ok (.getfield 7, 3) := by decide +kernel
theorem dX8_walks_169 : decode cX8_walks 169 = .ok (.iload 4, 2) := by decide +kernel
theorem dX8_walks_171 : decode cX8_walks 171 = .ok (.iaload, 1) := by decide +kernel
theorem dX8_walks_172 : decode cX8_walks 172 = .ok (.iconst 3, 1) := by decide +kernel
theorem dX8_walks_173 : decode cX8_walks 173 = .ok (.if_icmp .eq 20, 3) := by decide +kernel
theorem dX8_walks_176 : decode cX8_walks 176 = .ok (.aload_n 0, 1) := by decide +kernel
theorem dX8_walks_177 : decode cX8_walks 177 = .ok (.getfield 16, 3) := by decide +kernel
theorem dX8_walks_180 : decode cX8_walks 180 = .ok (.iload 4, 2) := by decide +kernel
theorem dX8_walks_182 : decode cX8_walks 182 = .ok (.iaload, 1) := by decide +kernel
theorem dX8_walks_183 : decode cX8_walks 183 = .ok (.iload_n 1, 1) := by decide +kernel
theorem dX8_walks_184 : decode cX8_walks 184 = .ok (.if_icmp .ne 9, 3) := by decide +kernel
theorem dX8_walks_187 : decode cX8_walks 187 = .ok (.aload_n 0, 1) := by decide +kernel
theorem dX8_walks_188 : decode cX8_walks 188 = .ok (.iload 4, 2) := by decide +kernel
theorem dX8_walks_190 : decode cX8_walks 190 = .ok (.invokevirtual 192, 3) := by decide +kernel
theorem dX8_walks_193 : decode cX8_walks 193 = .ok (.iinc 3 1, 3) := by decide +kernel
theorem dX8_walks_196 : decode cX8_walks 196 = .ok (.goto (-136), 3) := by decide +kernel
theorem dX8_walks_199 : decode cX8_walks 199 = .ok (.return_, 1) := by decide +kernel
theorem dX8_asks_0 : decode cX8_asks 0 = .ok (.aload_n 0, 1) := by decide +kernel
theorem dX8_asks_1 : decode cX8_asks 1 = .ok (.iload_n 1, 1) := by decide +kernel
theorem dX8_asks_2 : decode cX8_asks 2 = .ok (.invokestatic 101, 3) := by decide +kernel
theorem dX8_asks_5 : decode cX8_asks 5 = .ok (.ifCond .eq 14, 3) := by decide +kernel
theorem dX8_asks_8 : decode cX8_asks 8 = .ok (.iload_n 2, 1) := by decide +kernel
theorem dX8_asks_9 : decode cX8_asks 9 = .ok (.invokestatic 98, 3) := by decide +kernel
theorem dX8_asks_12 : decode cX8_asks 12 = .ok (.ifCond .eq 7, 3) := by decide +kernel
theorem dX8_asks_15 : decode cX8_asks 15 = .ok (.iconst 0, 1) := by decide +kernel
theorem dX8_asks_16 : decode cX8_asks 16 = .ok (.goto 4, 3) := by decide +kernel
theorem dX8_asks_19 : decode cX8_asks 19 = .ok (.iconst 1, 1) := by decide +kernel
theorem dX8_asks_20 : decode cX8_asks 20 = .ok (.invokevirtual 112, 3) := by decide +kernel
theorem dX8_asks_23 : decode cX8_asks 23 = .ok (.istore_n 3, 1) := by decide +kernel
theorem dX8_asks_24 : decode cX8_asks 24 = .ok (.iload_n 3, 1) := by decide +kernel
theorem dX8_asks_25 : decode cX8_asks 25 = .ok (.ifCond .eq 9, 3) := by decide +kernel
theorem dX8_asks_28 : decode cX8_asks 28 = .ok (.aload_n 0, 1) := by decide +kernel
theorem dX8_asks_29 : decode cX8_asks 29 = .ok (.iload_n 1, 1) := by decide +kernel
theorem dX8_asks_30 : decode cX8_asks 30 = .ok (.iload_n 2, 1) := by decide +kernel
theorem dX8_asks_31 : decode cX8_asks 31 = .ok (.invokevirtual 196, 3) := by decide +kernel
theorem dX8_asks_34 : decode cX8_asks 34 = .ok (.iload_n 3, 1) := by decide +kernel
theorem dX8_asks_35 : decode cX8_asks 35 = .ok (.ireturn, 1) := by decide +kernel
theorem dX8_costOf_0 : decode cX8_costOf 0 = .ok (.aload_n 0, 1) := by decide +kernel
theorem dX8_costOf_1 : decode cX8_costOf 1 = .ok (.aload_n 0, 1) := by decide +kernel
theorem dX8_costOf_2 : decode cX8_costOf 2 = .ok (.iload_n 1, 1) := by decide +kernel
theorem dX8_costOf_3 : decode cX8_costOf 3 = .ok (.invokevirtual 155, 3) := by decide +kernel
theorem dX8_costOf_6 : decode cX8_costOf 6 = .ok (.ifCond .ne 7, 3) := by decide +kernel
theorem dX8_costOf_9 : decode cX8_costOf 9 = .ok (.iconst 1, 1) := by decide +kernel
theorem dX8_costOf_10 : decode cX8_costOf 10 = .ok (.goto 27, 3) := by decide +kernel
theorem dX8_costOf_13 : decode cX8_costOf 13 = .ok (.aload_n 0, 1) := by decide +kernel
theorem dX8_costOf_14 : decode cX8_costOf 14 = .ok (.getfield 7, 3) := by decide +kernel
theorem dX8_costOf_17 : decode cX8_costOf 17 = .ok (.iload_n 1, 1) := by decide +kernel
theorem dX8_costOf_18 : decode cX8_costOf 18 = .ok (.iaload, 1) := by decide +kernel
theorem dX8_costOf_19 : decode cX8_costOf 19 = .ok (.iconst 1, 1) := by decide +kernel
theorem dX8_costOf_20 : decode cX8_costOf 20 = .ok (.if_icmp .ne 12, 3) := by decide +kernel
theorem dX8_costOf_23 : decode cX8_costOf 23 = .ok (.aload_n 0, 1) := by decide +kernel
theorem dX8_costOf_24 : decode cX8_costOf 24 = .ok (.getfield 25, 3) := by decide +kernel
theorem dX8_costOf_27 : decode cX8_costOf 27 = .ok (.iload_n 1, 1) := by decide +kernel
theorem dX8_costOf_28 : decode cX8_costOf 28 = .ok (.baload, 1) := by decide +kernel
theorem dX8_costOf_29 : decode cX8_costOf 29 = .ok (.ifCond .eq 7, 3) := by decide +kernel
theorem dX8_costOf_32 : decode cX8_costOf 32 = .ok (.iconst 2, 1) := by decide +kernel
theorem dX8_costOf_33 : decode cX8_costOf 33 = .ok (.goto 4, 3) := by decide +kernel
theorem dX8_costOf_36 : decode cX8_costOf 36 = .ok (.iconst 0, 1) := by decide +kernel
theorem dX8_costOf_37 : decode cX8_costOf 37 = .ok (.invokevirtual 112, 3) := by decide +kernel
theorem dX8_costOf_40 : decode cX8_costOf 40 = .ok (.ifCond .ne 5, 3) := by decide +kernel
theorem dX8_costOf_43 : decode cX8_costOf 43 = .ok (.lconst 0, 1) := by decide +kernel
theorem dX8_costOf_44 : decode cX8_costOf 44 = .ok (.lreturn, 1) := by decide +kernel
theorem dX8_costOf_45 : decode cX8_costOf 45 = .ok (.aload_n 0, 1) := by decide +kernel
theorem dX8_costOf_46 : decode cX8_costOf 46 = .ok (.aload_n 0, 1) := by decide +kernel
theorem dX8_costOf_47 : decode cX8_costOf 47 = .ok (.getfield 16, 3) := by decide +kernel
theorem dX8_costOf_50 : decode cX8_costOf 50 = .ok (.iload_n 1, 1) := by decide +kernel
theorem dX8_costOf_51 : decode cX8_costOf 51 = .ok (.iaload, 1) := by decide +kernel
theorem dX8_costOf_52 : decode cX8_costOf 52 = .ok (.sipush 365, 3) := by decide +kernel
theorem dX8_costOf_55 : decode cX8_costOf 55 = .ok (.invokevirtual 196, 3) := by decide +kernel
theorem dX8_costOf_58 : decode cX8_costOf 58 = .ok (.aload_n 0, 1) := by decide +kernel
theorem dX8_costOf_59 : decode cX8_costOf 59 = .ok (.getfield 55, 3) := by decide +kernel
theorem dX8_costOf_62 : decode cX8_costOf 62 = .ok (.iconst 2, 1) := by decide +kernel
theorem dX8_costOf_63 : decode cX8_costOf 63 = .ok (.iload_n 1, 1) := by decide +kernel
theorem dX8_costOf_64 : decode cX8_costOf 64 = .ok (.imul, 1) := by decide +kernel
theorem dX8_costOf_65 : decode cX8_costOf 65 = .ok (.iload_n 2, 1) := by decide +kernel
theorem dX8_costOf_66 : decode cX8_costOf 66 = .ok (.ifCond .eq 7, 3) := by decide +kernel
theorem dX8_costOf_69 : decode cX8_costOf 69 = .ok (.iconst 1, 1) := by decide +kernel
theorem dX8_costOf_70 : decode cX8_costOf 70 = .ok (.goto 4, 3) := by decide +kernel
theorem dX8_costOf_73 : decode cX8_costOf 73 = .ok (.iconst 0, 1) := by decide +kernel
theorem dX8_costOf_74 : decode cX8_costOf 74 = .ok (.iadd, 1) := by decide +kernel
theorem dX8_costOf_75 : decode cX8_costOf 75 = .ok (.laload, 1) := by decide +kernel
theorem dX8_costOf_76 : decode cX8_costOf 76 = .ok (.lreturn, 1) := by decide +kernel
theorem dX8_onHand_0 : decode cX8_onHand 0 = .ok (.aload_n 0, 1) := by decide +kernel
theorem dX8_onHand_1 : decode cX8_onHand 1 = .ok (.iload_n 1, 1) := by decide +kernel
theorem dX8_onHand_2 : decode cX8_onHand 2 = .ok (.iload_n 2, 1) := by decide +kernel
theorem dX8_onHand_3 : decode cX8_onHand 3 = .ok (.invokevirtual 199, 3) := by decide +kernel
theorem dX8_onHand_6 : decode cX8_onHand 6 = .ok (.ifCond .eq 10, 3) := by decide +kernel
theorem dX8_onHand_9 : decode cX8_onHand 9 = .ok (.aload_n 0, 1) := by decide +kernel
theorem dX8_onHand_10 : decode cX8_onHand 10 = .ok (.getfield 175, 3) := by decide +kernel
theorem dX8_onHand_13 : decode cX8_onHand 13 = .ok (.goto 4, 3) := by decide +kernel
theorem dX8_onHand_16 : decode cX8_onHand 16 = .ok (.iconst 0, 1) := by decide +kernel
theorem dX8_onHand_17 : decode cX8_onHand 17 = .ok (.ireturn, 1) := by decide +kernel
theorem dX8_available_0 : decode cX8_available 0 = .ok (.aload_n 0, 1) := by decide +kernel
theorem dX8_available_1 : decode cX8_available 1 = .ok (.iload_n 1, 1) := by decide +kernel
theorem dX8_available_2 : decode cX8_available 2 = .ok (.invokestatic 101, 3) := by decide +kernel
theorem dX8_available_5 : decode cX8_available 5 = .ok (.ifCond .eq 14, 3) := by decide +kernel
theorem dX8_available_8 : decode cX8_available 8 = .ok (.iload_n 2, 1) := by decide +kernel
theorem dX8_available_9 : decode cX8_available 9 = .ok (.invokestatic 98, 3) := by decide +kernel
theorem dX8_available_12 : decode cX8_available 12 = .ok (.ifCond .eq 7, 3) := by decide +kernel
theorem dX8_available_15 : decode cX8_available 15 = .ok (.iconst 0, 1) := by decide +kernel
theorem dX8_available_16 : decode cX8_available 16 = .ok (.goto 4, 3) := by decide +kernel
theorem dX8_available_19 : decode cX8_available 19 = .ok (.iconst 1, 1) := by decide +kernel
theorem dX8_available_20 : decode cX8_available 20 = .ok (.invokevirtual 112, 3) := by decide +kernel
theorem dX8_available_23 : decode cX8_available 23 = .ok (.ifCond .ne 5, 3) := by decide +kernel
theorem dX8_available_26 : decode cX8_available 26 = .ok (.iconst 0, 1) := by decide +kernel
theorem dX8_available_27 : decode cX8_available 27 = .ok (.ireturn, 1) := by decide +kernel
theorem dX8_available_28 : decode cX8_available 28 = .ok (.iconst 0, 1) := by decide +kernel
theorem dX8_available_29 : decode cX8_available 29 = .ok (.istore_n 3, 1) := by decide +kernel
theorem dX8_available_30 : decode cX8_available 30 = .ok (.sipush 1000, 3) := by decide +kernel
theorem dX8_available_33 : decode cX8_available 33 = .ok (.istore 4, 2) := by decide +kernel
theorem dX8_available_35 : decode cX8_available 35 = .ok (.aload_n 0, 1) := by decide +kernel
theorem dX8_available_36 : decode cX8_available 36 = .ok (.invokevirtual 83, 3) := by decide +kernel
theorem dX8_available_39 : decode cX8_available 39 = .ok (.iconst 0, 1) := by decide +kernel
theorem dX8_available_40 : decode cX8_available 40 = .ok (.istore 5, 2) := by decide +kernel
theorem dX8_available_42 : decode cX8_available 42 = .ok (.iload 5, 2) := by decide +kernel
theorem dX8_available_44 : decode cX8_available 44 = .ok (.aload_n 0, 1) := by decide +kernel
theorem dX8_available_45 : decode cX8_available 45 = .ok (.getfield 80, 3) := by decide +kernel
theorem dX8_available_48 : decode cX8_available 48 = .ok (.if_icmp .gt 132, 3) := by decide +kernel
theorem dX8_available_51 : decode cX8_available 51 = .ok (.iload 5, 2) := by decide +kernel
theorem dX8_available_53 : decode cX8_available 53 = .ok (.aload_n 0, 1) := by decide +kernel
theorem dX8_available_54 : decode cX8_available 54 = .ok (.getfield 80, 3) := by decide +kernel
theorem dX8_available_57 : decode cX8_available 57 = .ok (.if_icmp .ge 13, 3) := by decide +kernel
theorem dX8_available_60 : decode cX8_available 60 = .ok (.aload_n 0, 1) := by decide +kernel
theorem dX8_available_61 : decode cX8_available 61 = .ok (.getfield 43, 3) := by decide +kernel
theorem dX8_available_64 : decode cX8_available 64 = .ok (.iload 5, 2) := by decide +kernel
theorem dX8_available_66 : decode cX8_available 66 = .ok (.iaload, 1) := by decide +kernel
theorem dX8_available_67 : decode cX8_available 67 = .ok (.goto 4, 3) := by decide +kernel
theorem dX8_available_70 : decode cX8_available 70 = .ok (.iconst (-1), 1) := by decide +kernel
theorem dX8_available_71 : decode cX8_available 71 = .ok (.istore 6, 2) := by decide +kernel
theorem dX8_available_73 : decode cX8_available 73 = .ok (.iload 6, 2) := by decide +kernel
theorem dX8_available_75 : decode cX8_available 75 = .ok (.iconst (-1), 1) := by decide +kernel
theorem dX8_available_76 : decode cX8_available 76 = .ok (.if_icmp .eq 14, 3) := by decide +kernel
theorem dX8_available_79 : decode cX8_available 79 = .ok (.aload_n 0, 1) := by decide +kernel
theorem dX8_available_80 : decode cX8_available 80 = .ok (.getfield 13, 3) := by decide +kernel
theorem dX8_available_83 : decode cX8_available 83 = .ok (.iload 6, 2) := by decide +kernel
theorem dX8_available_85 : decode cX8_available 85 = .ok (.iaload, 1) := by decide +kernel
theorem dX8_available_86 : decode cX8_available 86 = .ok (.iload_n 2, 1) := by decide +kernel
theorem dX8_available_87 : decode cX8_available 87 = .ok (.if_icmp .le 7, 3) := by decide +kernel
theorem dX8_available_90 : decode cX8_available 90 = .ok (.iconst 1, 1) := by decide +kernel
theorem dX8_available_91 : decode cX8_available 91 = .ok (.goto 4, 3) := by decide +kernel
theorem dX8_available_94 : decode cX8_available 94 = .ok (.iconst 0, 1) := by decide +kernel
theorem dX8_available_95 : decode cX8_available 95 = .ok (.istore 7, 2) := by decide +kernel
theorem dX8_available_97 : decode cX8_available 97 = .ok (.iload 6, 2) := by decide +kernel
theorem dX8_available_99 : decode cX8_available 99 = .ok (.iconst (-1), 1) := by decide +kernel
theorem dX8_available_100 : decode cX8_available 100 = .ok (.if_icmp .ne 7, 3) := by decide +kernel
theorem dX8_available_103 : decode cX8_available 103 = .ok (.iload_n 3, 1) := by decide +kernel
theorem dX8_available_104 : decode cX8_available 104 = .ok (.goto 27, 3) := by decide +kernel
theorem dX8_available_107 : decode cX8_available 107 = .ok (.aload_n 0, 1) := by decide +kernel
theorem dX8_available_108 : decode cX8_available 108 = .ok (.iload 6, 2) := by decide +kernel
theorem dX8_available_110 : decode cX8_available 110 = .ok (.iload_n 1, 1) := by decide +kernel
theorem dX8_available_111 : decode cX8_available 111 = .ok (.invokevirtual 86, 3) := by decide +kernel
theorem dX8_available_114 : decode cX8_available 114 = .ok (.ifCond .eq 15, 3) := by decide +kernel
theorem dX8_available_117 : decode cX8_available 117 = .ok (.iload_n 3, 1) := by decide +kernel
theorem dX8_available_118 : decode cX8_available 118 = .ok (.aload_n 0, 1) := by decide +kernel
theorem dX8_available_119 : decode cX8_available 119 = .ok (.getfield 19, 3) := by decide +kernel
theorem dX8_available_122 : decode cX8_available 122 = .ok (.iload 6, 2) := by decide +kernel
theorem dX8_available_124 : decode cX8_available 124 = .ok (.iaload, 1) := by decide +kernel
theorem dX8_available_125 : decode cX8_available 125 = .ok (.isub, 1) := by decide +kernel
theorem dX8_available_126 : decode cX8_available 126 = .ok (.goto 5, 3) := by decide +kernel
theorem dX8_available_129 : decode cX8_available 129 = .ok (.iload 4, 2) := by decide +kernel
theorem dX8_available_131 : decode cX8_available 131 = .ok (.istore 8, 2) := by decide +kernel
theorem dX8_available_133 : decode cX8_available 133 = .ok (.iload 7, 2) := by decide +kernel
theorem dX8_available_135 : decode cX8_available 135 = .ok (.ifCond .eq 15, 3) := by decide +kernel
theorem dX8_available_138 : decode cX8_available 138 = .ok (.iload 8, 2) := by decide +kernel
theorem dX8_available_140 : decode cX8_available 140 = .ok (.iload 4, 2) := by decide +kernel
theorem dX8_available_142 : decode cX8_available 142 = .ok (.if_icmp .ge 8, 3) := by decide +kernel
theorem dX8_available_145 : decode cX8_available 145 = .ok (.iload 8, 2) := by decide +kernel
theorem dX8_available_147 : decode cX8_available 147 = .ok (.goto 5, 3) := by decide +kernel
theorem dX8_available_150 : decode cX8_available 150 = .ok (.iload 4, 2) := by decide +kernel
theorem dX8_available_152 : decode cX8_available 152 = .ok (.istore 4, 2) := by decide +kernel
theorem dX8_available_154 : decode cX8_available 154 = .ok (.iload_n 3, 1) := by decide +kernel
theorem dX8_available_155 : decode cX8_available 155 = .ok (.iload 6, 2) := by decide +kernel
theorem dX8_available_157 : decode cX8_available 157 = .ok (.iconst (-1), 1) := by decide +kernel
theorem dX8_available_158 : decode cX8_available 158 = .ok (.if_icmp .ne 7, 3) := by decide +kernel
theorem dX8_available_161 : decode cX8_available 161 = .ok (.iconst 0, 1) := by decide +kernel
theorem dX8_available_162 : decode cX8_available 162 = .ok (.goto 10, 3) := by decide +kernel
theorem dX8_available_165 : decode cX8_available 165 = .ok (.aload_n 0, 1) := by decide +kernel
theorem dX8_available_166 : decode cX8_available 166 = .ok (.iload 6, 2) := by decide +kernel
theorem dX8_available_168 : decode cX8_available 168 = .ok (.iload_n 1, 1) := by decide +kernel
theorem dX8_available_169 : decode cX8_available 169 = .ok (.invokevirtual 90, 3) := by decide +kernel
theorem dX8_available_172 : decode cX8_available 172 = .ok (.iadd, 1) := by decide +kernel
theorem dX8_available_173 : decode cX8_available 173 = .ok (.istore_n 3, 1) := by decide +kernel
theorem dX8_available_174 : decode cX8_available 174 = .ok (.iinc 5 1, 3) := by decide +kernel
theorem dX8_available_177 : decode cX8_available 177 = .ok (.goto (-135), 3) := by decide +kernel
theorem dX8_available_180 : decode cX8_available 180 = .ok (.iload 4, 2) := by decide +kernel
theorem dX8_available_182 : decode cX8_available 182 = .ok (.aload_n 0, 1) := by decide +kernel
theorem dX8_available_183 : decode cX8_available 183 = .ok (.iload_n 1, 1) := by decide +kernel
theorem dX8_available_184 : decode cX8_available 184 = .ok (.iload_n 2, 1) := by decide +kernel
theorem dX8_available_185 : decode cX8_available 185 = .ok (.invokevirtual 202, 3) := by decide +kernel
theorem dX8_available_188 : decode cX8_available 188 = .ok (.if_icmp .ge 8, 3) := by decide +kernel
theorem dX8_available_191 : decode cX8_available 191 = .ok (.iload 4, 2) := by decide +kernel
theorem dX8_available_193 : decode cX8_available 193 = .ok (.goto 9, 3) := by decide +kernel
theorem dX8_available_196 : decode cX8_available 196 = .ok (.aload_n 0, 1) := by decide +kernel
theorem dX8_available_197 : decode cX8_available 197 = .ok (.iload_n 1, 1) := by decide +kernel
theorem dX8_available_198 : decode cX8_available 198 = .ok (.iload_n 2, 1) := by decide +kernel
theorem dX8_available_199 : decode cX8_available 199 = .ok (.invokevirtual 202, 3) := by decide +kernel
theorem dX8_available_202 : decode cX8_available 202 = .ok (.ireturn, 1) := by decide +kernel
theorem dX8_handAt_0 : decode cX8_handAt 0 = .ok (.iconst 0, 1) := by decide +kernel
theorem dX8_handAt_1 : decode cX8_handAt 1 = .ok (.istore_n 3, 1) := by decide +kernel
theorem dX8_handAt_2 : decode cX8_handAt 2 = .ok (.iconst 0, 1) := by decide +kernel
theorem dX8_handAt_3 : decode cX8_handAt 3 = .ok (.istore 4, 2) := by decide +kernel
theorem dX8_handAt_5 : decode cX8_handAt 5 = .ok (.iload 4, 2) := by decide +kernel
theorem dX8_handAt_7 : decode cX8_handAt 7 = .ok (.aload_n 0, 1) := by decide +kernel
theorem dX8_handAt_8 : decode cX8_handAt 8 = .ok (.getfield 80, 3) := by decide +kernel
theorem dX8_handAt_11 : decode cX8_handAt 11 = .ok (.if_icmp .ge 40, 3) := by decide +kernel
theorem dX8_handAt_14 : decode cX8_handAt 14 = .ok (.aload_n 0, 1) := by decide +kernel
theorem dX8_handAt_15 : decode cX8_handAt 15 = .ok (.getfield 13, 3) := by decide +kernel
theorem dX8_handAt_18 : decode cX8_handAt 18 = .ok (.aload_n 0, 1) := by decide +kernel
theorem dX8_handAt_19 : decode cX8_handAt 19 = .ok (.getfield 43, 3) := by decide +kernel
theorem dX8_handAt_22 : decode cX8_handAt 22 = .ok (.iload 4, 2) := by decide +kernel
theorem dX8_handAt_24 : decode cX8_handAt 24 = .ok (.iaload, 1) := by decide +kernel
theorem dX8_handAt_25 : decode cX8_handAt 25 = .ok (.iaload, 1) := by decide +kernel
theorem dX8_handAt_26 : decode cX8_handAt 26 = .ok (.iload_n 2, 1) := by decide +kernel
theorem dX8_handAt_27 : decode cX8_handAt 27 = .ok (.if_icmp .gt 24, 3) := by decide +kernel
theorem dX8_handAt_30 : decode cX8_handAt 30 = .ok (.iload_n 3, 1) := by decide +kernel
theorem dX8_handAt_31 : decode cX8_handAt 31 = .ok (.aload_n 0, 1) := by decide +kernel
theorem dX8_handAt_32 : decode cX8_handAt 32 = .ok (.aload_n 0, 1) := by decide +kernel
theorem dX8_handAt_33 : decode cX8_handAt 33 = .ok (.getfield 43, 3) := by decide +kernel
theorem dX8_handAt_36 : decode cX8_handAt 36 = .ok (.iload 4, 2) := by decide +kernel
theorem dX8_handAt_38 : decode cX8_handAt 38 = .ok (.iaload, 1) := by decide +kernel
theorem dX8_handAt_39 : decode cX8_handAt 39 = .ok (.iload_n 1, 1) := by decide +kernel
theorem dX8_handAt_40 : decode cX8_handAt 40 = .ok (.invokevirtual 90, 3) := by decide +kernel
theorem dX8_handAt_43 : decode cX8_handAt 43 = .ok (.iadd, 1) := by decide +kernel
theorem dX8_handAt_44 : decode cX8_handAt 44 = .ok (.istore_n 3, 1) := by decide +kernel
theorem dX8_handAt_45 : decode cX8_handAt 45 = .ok (.iinc 4 1, 3) := by decide +kernel
theorem dX8_handAt_48 : decode cX8_handAt 48 = .ok (.goto (-43), 3) := by decide +kernel
theorem dX8_handAt_51 : decode cX8_handAt 51 = .ok (.iload_n 3, 1) := by decide +kernel
theorem dX8_handAt_52 : decode cX8_handAt 52 = .ok (.sipush 1000, 3) := by decide +kernel
theorem dX8_handAt_55 : decode cX8_handAt 55 = .ok (.if_icmp .ge 7, 3) := by decide +kernel
theorem dX8_handAt_58 : decode cX8_handAt 58 = .ok (.iload_n 3, 1) := by decide +kernel
theorem dX8_handAt_59 : decode cX8_handAt 59 = .ok (.goto 6, 3) := by decide +kernel
theorem dX8_handAt_62 : decode cX8_handAt 62 = .ok (.sipush 1000, 3) := by decide +kernel
theorem dX8_handAt_65 : decode cX8_handAt 65 = .ok (.ireturn, 1) := by decide +kernel
theorem dX8_value_0 : decode cX8_value 0 = .ok (.aload_n 0, 1) := by decide +kernel
theorem dX8_value_1 : decode cX8_value 1 = .ok (.iload_n 1, 1) := by decide +kernel
theorem dX8_value_2 : decode cX8_value 2 = .ok (.iload_n 2, 1) := by decide +kernel
theorem dX8_value_3 : decode cX8_value 3 = .ok (.invokevirtual 199, 3) := by decide +kernel
theorem dX8_value_6 : decode cX8_value 6 = .ok (.ifCond .ne 5, 3) := by decide +kernel
theorem dX8_value_9 : decode cX8_value 9 = .ok (.lconst 0, 1) := by decide +kernel
theorem dX8_value_10 : decode cX8_value 10 = .ok (.lreturn, 1) := by decide +kernel
theorem dX8_value_11 : decode cX8_value 11 = .ok (.lconst 0, 1) := by decide +kernel
theorem dX8_value_12 : decode cX8_value 12 = .ok (.lstore 4, 2) := by decide +kernel
theorem dX8_value_14 : decode cX8_value 14 = .ok (.iconst 0, 1) := by decide +kernel
theorem dX8_value_15 : decode cX8_value 15 = .ok (.istore 6, 2) := by decide +kernel
theorem dX8_value_17 : decode cX8_value 17 = .ok (.iload 6, 2) := by decide +kernel
theorem dX8_value_19 : decode cX8_value 19 = .ok (.aload_n 0, 1) := by decide +kernel
theorem dX8_value_20 : decode cX8_value 20 = .ok (.getfield 161, 3) := by decide +kernel
theorem dX8_value_23 : decode cX8_value 23 = .ok (.if_icmp .ge 21, 3) := by decide +kernel
theorem dX8_value_26 : decode cX8_value 26 = .ok (.lload 4, 2) := by decide +kernel
theorem dX8_value_28 : decode cX8_value 28 = .ok (.aload_n 0, 1) := by decide +kernel
theorem dX8_value_29 : decode cX8_value 29 = .ok (.getfield 61, 3) := by decide +kernel
theorem dX8_value_32 : decode cX8_value 32 = .ok (.iload 6, 2) := by decide +kernel
theorem dX8_value_34 : decode cX8_value 34 = .ok (.laload, 1) := by decide +kernel
theorem dX8_value_35 : decode cX8_value 35 = .ok (.ladd, 1) := by decide +kernel
theorem dX8_value_36 : decode cX8_value 36 = .ok (.lstore 4, 2) := by decide +kernel
theorem dX8_value_38 : decode cX8_value 38 = .ok (.iinc 6 1, 3) := by decide +kernel
theorem dX8_value_41 : decode cX8_value 41 = .ok (.goto (-24), 3) := by decide +kernel
theorem dX8_value_44 : decode cX8_value 44 = .ok (.iload_n 3, 1) := by decide +kernel
theorem dX8_value_45 : decode cX8_value 45 = .ok (.ifCond .eq 10, 3) := by decide +kernel
theorem dX8_value_48 : decode cX8_value 48 = .ok (.aload_n 0, 1) := by decide +kernel
theorem dX8_value_49 : decode cX8_value 49 = .ok (.getfield 178, 3) := by decide +kernel
theorem dX8_value_52 : decode cX8_value 52 = .ok (.goto 5, 3) := by decide +kernel
theorem dX8_value_55 : decode cX8_value 55 = .ok (.lload 4, 2) := by decide +kernel
theorem dX8_value_57 : decode cX8_value 57 = .ok (.lreturn, 1) := by decide +kernel
theorem dX8_received_0 : decode cX8_received 0 = .ok (.aload_n 0, 1) := by decide +kernel
theorem dX8_received_1 : decode cX8_received 1 = .ok (.iload_n 1, 1) := by decide +kernel
theorem dX8_received_2 : decode cX8_received 2 = .ok (.iload_n 2, 1) := by decide +kernel
theorem dX8_received_3 : decode cX8_received 3 = .ok (.invokevirtual 199, 3) := by decide +kernel
theorem dX8_received_6 : decode cX8_received 6 = .ok (.ifCond .eq 10, 3) := by decide +kernel
theorem dX8_received_9 : decode cX8_received 9 = .ok (.aload_n 0, 1) := by decide +kernel
theorem dX8_received_10 : decode cX8_received 10 = .ok (.getfield 171, 3) := by decide +kernel
theorem dX8_received_13 : decode cX8_received 13 = .ok (.goto 4, 3) := by decide +kernel
theorem dX8_received_16 : decode cX8_received 16 = .ok (.lconst 0, 1) := by decide +kernel
theorem dX8_received_17 : decode cX8_received 17 = .ok (.lreturn, 1) := by decide +kernel
theorem dX8_issued_0 : decode cX8_issued 0 = .ok (.aload_n 0, 1) := by decide +kernel
theorem dX8_issued_1 : decode cX8_issued 1 = .ok (.iload_n 1, 1) := by decide +kernel
theorem dX8_issued_2 : decode cX8_issued 2 = .ok (.iload_n 2, 1) := by decide +kernel
theorem dX8_issued_3 : decode cX8_issued 3 = .ok (.invokevirtual 199, 3) := by decide +kernel
theorem dX8_issued_6 : decode cX8_issued 6 = .ok (.ifCond .eq 20, 3) := by decide +kernel
theorem dX8_issued_9 : decode cX8_issued 9 = .ok (.aload_n 0, 1) := by decide +kernel
theorem dX8_issued_10 : decode cX8_issued 10 = .ok (.getfield 46, 3) := by decide +kernel
theorem dX8_issued_13 : decode cX8_issued 13 = .ok (.iload_n 3, 1) := by decide +kernel
theorem dX8_issued_14 : decode cX8_issued 14 = .ok (.ifCond .eq 7, 3) := by decide +kernel
theorem dX8_issued_17 : decode cX8_issued 17 = .ok (.iconst 1, 1) := by decide +kernel
theorem dX8_issued_18 : decode cX8_issued 18 = .ok (.goto 4, 3) := by decide +kernel
theorem dX8_issued_21 : decode cX8_issued 21 = .ok (.iconst 0, 1) := by decide +kernel
theorem dX8_issued_22 : decode cX8_issued 22 = .ok (.laload, 1) := by decide +kernel
theorem dX8_issued_23 : decode cX8_issued 23 = .ok (.goto 4, 3) := by decide +kernel
theorem dX8_issued_26 : decode cX8_issued 26 = .ok (.lconst 0, 1) := by decide +kernel
theorem dX8_issued_27 : decode cX8_issued 27 = .ok (.lreturn, 1) := by decide +kernel
theorem dX8_revalued_0 : decode cX8_revalued 0 = .ok (.aload_n 0, 1) := by decide +kernel
theorem dX8_revalued_1 : decode cX8_revalued 1 = .ok (.iload_n 1, 1) := by decide +kernel
theorem dX8_revalued_2 : decode cX8_revalued 2 = .ok (.iload_n 2, 1) := by decide +kernel
theorem dX8_revalued_3 : decode cX8_revalued 3 = .ok (.invokevirtual 199, 3) := by decide +kernel
theorem dX8_revalued_6 : decode cX8_revalued 6 = .ok (.ifCond .eq 20, 3) := by decide +kernel
theorem dX8_revalued_9 : decode cX8_revalued 9 = .ok (.aload_n 0, 1) := by decide +kernel
theorem dX8_revalued_10 : decode cX8_revalued 10 = .ok (.getfield 49, 3) := by decide +kernel
theorem dX8_revalued_13 : decode cX8_revalued 13 = .ok (.iload_n 3, 1) := by decide +kernel
theorem dX8_revalued_14 : decode cX8_revalued 14 = .ok (.ifCond .eq 7, 3) := by decide +kernel
theorem dX8_revalued_17 : decode cX8_revalued 17 = .ok (.iconst 1, 1) := by decide +kernel
theorem dX8_revalued_18 : decode cX8_revalued 18 = .ok (.goto 4, 3) := by decide +kernel
theorem dX8_revalued_21 : decode cX8_revalued 21 = .ok (.iconst 0, 1) := by decide +kernel
theorem dX8_revalued_22 : decode cX8_revalued 22 = .ok (.laload, 1) := by decide +kernel
theorem dX8_revalued_23 : decode cX8_revalued 23 = .ok (.goto 4, 3) := by decide +kernel
theorem dX8_revalued_26 : decode cX8_revalued 26 = .ok (.lconst 0, 1) := by decide +kernel
theorem dX8_revalued_27 : decode cX8_revalued 27 = .ok (.lreturn, 1) := by decide +kernel
theorem dX8_expensed_0 : decode cX8_expensed 0 = .ok (.aload_n 0, 1) := by decide +kernel
theorem dX8_expensed_1 : decode cX8_expensed 1 = .ok (.iload_n 1, 1) := by decide +kernel
theorem dX8_expensed_2 : decode cX8_expensed 2 = .ok (.iload_n 2, 1) := by decide +kernel
theorem dX8_expensed_3 : decode cX8_expensed 3 = .ok (.invokevirtual 199, 3) := by decide +kernel
theorem dX8_expensed_6 : decode cX8_expensed 6 = .ok (.ifCond .eq 20, 3) := by decide +kernel
theorem dX8_expensed_9 : decode cX8_expensed 9 = .ok (.aload_n 0, 1) := by decide +kernel
theorem dX8_expensed_10 : decode cX8_expensed 10 = .ok (.getfield 52, 3) := by decide +kernel
theorem dX8_expensed_13 : decode cX8_expensed 13 = .ok (.iload_n 3, 1) := by decide +kernel
theorem dX8_expensed_14 : decode cX8_expensed 14 = .ok (.ifCond .eq 7, 3) := by decide +kernel
theorem dX8_expensed_17 : decode cX8_expensed 17 = .ok (.iconst 1, 1) := by decide +kernel
theorem dX8_expensed_18 : decode cX8_expensed 18 = .ok (.goto 4, 3) := by decide +kernel
theorem dX8_expensed_21 : decode cX8_expensed 21 = .ok (.iconst 0, 1) := by decide +kernel
theorem dX8_expensed_22 : decode cX8_expensed 22 = .ok (.laload, 1) := by decide +kernel
theorem dX8_expensed_23 : decode cX8_expensed 23 = .ok (.goto 4, 3) := by decide +kernel
theorem dX8_expensed_26 : decode cX8_expensed 26 = .ok (.lconst 0, 1) := by decide +kernel
theorem dX8_expensed_27 : decode cX8_expensed 27 = .ok (.lreturn, 1) := by decide +kernel
theorem dX8_layers_0 : decode cX8_layers 0 = .ok (.aload_n 0, 1) := by decide +kernel
theorem dX8_layers_1 : decode cX8_layers 1 = .ok (.iload_n 1, 1) := by decide +kernel
theorem dX8_layers_2 : decode cX8_layers 2 = .ok (.iload_n 2, 1) := by decide +kernel
theorem dX8_layers_3 : decode cX8_layers 3 = .ok (.invokevirtual 199, 3) := by decide +kernel
theorem dX8_layers_6 : decode cX8_layers 6 = .ok (.ifCond .eq 10, 3) := by decide +kernel
theorem dX8_layers_9 : decode cX8_layers 9 = .ok (.aload_n 0, 1) := by decide +kernel
theorem dX8_layers_10 : decode cX8_layers 10 = .ok (.getfield 161, 3) := by decide +kernel
theorem dX8_layers_13 : decode cX8_layers 13 = .ok (.goto 4, 3) := by decide +kernel
theorem dX8_layers_16 : decode cX8_layers 16 = .ok (.iconst 0, 1) := by decide +kernel
theorem dX8_layers_17 : decode cX8_layers 17 = .ok (.ireturn, 1) := by decide +kernel
theorem dX8_asksLayer_0 : decode cX8_asksLayer 0 = .ok (.aload_n 0, 1) := by decide +kernel
theorem dX8_asksLayer_1 : decode cX8_asksLayer 1 = .ok (.iload_n 1, 1) := by decide +kernel
theorem dX8_asksLayer_2 : decode cX8_asksLayer 2 = .ok (.iload_n 2, 1) := by decide +kernel
theorem dX8_asksLayer_3 : decode cX8_asksLayer 3 = .ok (.invokevirtual 199, 3) := by decide +kernel
theorem dX8_asksLayer_6 : decode cX8_asksLayer 6 = .ok (.ifCond .eq 33, 3) := by decide +kernel
theorem dX8_asksLayer_9 : decode cX8_asksLayer 9 = .ok (.aload_n 0, 1) := by decide +kernel
theorem dX8_asksLayer_10 : decode cX8_asksLayer 10 = .ok (.iload_n 3, 1) := by decide +kernel
theorem dX8_asksLayer_11 : decode cX8_asksLayer 11 = .ok (.iconst 0, 1) := by decide +kernel
theorem dX8_asksLayer_12 : decode cX8_asksLayer 12 = .ok (.aload_n 0, 1) := by decide +kernel
theorem dX8_asksLayer_13 : decode cX8_asksLayer 13 = .ok (.getfield 161, 3) := by decide +kernel
theorem dX8_asksLayer_16 : decode cX8_asksLayer 16 = .ok (.iconst 1, 1) := by decide +kernel
theorem dX8_asksLayer_17 : decode cX8_asksLayer 17 = .ok (.isub, 1) := by decide +kernel
theorem dX8_asksLayer_18 : decode cX8_asksLayer 18 = .ok (.invokestatic 73, 3) := by decide +kernel
theorem dX8_asksLayer_21 : decode cX8_asksLayer 21 = .ok (.ifCond .eq 7, 3) := by decide +kernel
theorem dX8_asksLayer_24 : decode cX8_asksLayer 24 = .ok (.iconst 0, 1) := by decide +kernel
theorem dX8_asksLayer_25 : decode cX8_asksLayer 25 = .ok (.goto 4, 3) := by decide +kernel
theorem dX8_asksLayer_28 : decode cX8_asksLayer 28 = .ok (.iconst 2, 1) := by decide +kernel
theorem dX8_asksLayer_29 : decode cX8_asksLayer 29 = .ok (.invokevirtual 112, 3) := by decide +kernel
theorem dX8_asksLayer_32 : decode cX8_asksLayer 32 = .ok (.ifCond .eq 7, 3) := by decide +kernel
theorem dX8_asksLayer_35 : decode cX8_asksLayer 35 = .ok (.iconst 1, 1) := by decide +kernel
theorem dX8_asksLayer_36 : decode cX8_asksLayer 36 = .ok (.goto 4, 3) := by decide +kernel
theorem dX8_asksLayer_39 : decode cX8_asksLayer 39 = .ok (.iconst 0, 1) := by decide +kernel
theorem dX8_asksLayer_40 : decode cX8_asksLayer 40 = .ok (.ireturn, 1) := by decide +kernel
theorem dX8_layerQuantity_0 : decode cX8_layerQuantity 0 = .ok (.aload_n 0, 1) := by decide +kernel
theorem dX8_layerQuantity_1 : decode cX8_layerQuantity 1 = .ok (.iload_n 1, 1) := by decide +kernel
theorem dX8_layerQuantity_2 : decode cX8_layerQuantity 2 = .ok (.iload_n 2, 1) := by decide +kernel
theorem dX8_layerQuantity_3 : decode cX8_layerQuantity 3 = .ok (.iload_n 3, 1) := by decide +kernel
theorem dX8_layerQuantity_4 : decode cX8_layerQuantity 4 = .ok (.invokevirtual 205, 3) := by decide +kernel
theorem dX8_layerQuantity_7 : decode cX8_layerQuantity 7 = .ok (.ifCond .eq 12, 3) := by decide +kernel
theorem dX8_layerQuantity_10 : decode cX8_layerQuantity 10 = .ok (.aload_n 0, 1) := by decide +kernel
theorem dX8_layerQuantity_11 : decode cX8_layerQuantity 11 = .ok (.getfield 58, 3) := by decide +kernel
theorem dX8_layerQuantity_14 : decode cX8_layerQuantity 14 = .ok (.iload_n 3, 1) := by decide +kernel
theorem dX8_layerQuantity_15 : decode cX8_layerQuantity 15 = .ok (.iaload, 1) := by decide +kernel
theorem dX8_layerQuantity_16 : decode cX8_layerQuantity 16 = .ok (.goto 4, 3) := by decide +kernel
theorem dX8_layerQuantity_19 : decode cX8_layerQuantity 19 = .ok (.iconst 0, 1) := by decide +kernel
theorem dX8_layerQuantity_20 : decode cX8_layerQuantity 20 = .ok (.ireturn, 1) := by decide +kernel
theorem dX8_layerCost_0 : decode cX8_layerCost 0 = .ok (.aload_n 0, 1) := by decide +kernel
theorem dX8_layerCost_1 : decode cX8_layerCost 1 = .ok (.iload_n 1, 1) := by decide +kernel
theorem dX8_layerCost_2 : decode cX8_layerCost 2 = .ok (.iload_n 2, 1) := by decide +kernel
theorem dX8_layerCost_3 : decode cX8_layerCost 3 = .ok (.iload_n 3, 1) := by decide +kernel
theorem dX8_layerCost_4 : decode cX8_layerCost 4 = .ok (.invokevirtual 205, 3) := by decide +kernel
theorem dX8_layerCost_7 : decode cX8_layerCost 7 = .ok (.ifCond .eq 12, 3) := by decide +kernel
theorem dX8_layerCost_10 : decode cX8_layerCost 10 = .ok (.aload_n 0, 1) := by decide +kernel
theorem dX8_layerCost_11 : decode cX8_layerCost 11 = .ok (.getfield 61, 3) := by decide +kernel
theorem dX8_layerCost_14 : decode cX8_layerCost 14 = .ok (.iload_n 3, 1) := by decide +kernel
theorem dX8_layerCost_15 : decode cX8_layerCost 15 = .ok (.laload, 1) := by decide +kernel
theorem dX8_layerCost_16 : decode cX8_layerCost 16 = .ok (.goto 4, 3) := by decide +kernel
theorem dX8_layerCost_19 : decode cX8_layerCost 19 = .ok (.lconst 0, 1) := by decide +kernel
theorem dX8_layerCost_20 : decode cX8_layerCost 20 = .ok (.lreturn, 1) := by decide +kernel
theorem dX8_layerOrigin_0 : decode cX8_layerOrigin 0 = .ok (.aload_n 0, 1) := by decide +kernel
theorem dX8_layerOrigin_1 : decode cX8_layerOrigin 1 = .ok (.iload_n 1, 1) := by decide +kernel
theorem dX8_layerOrigin_2 : decode cX8_layerOrigin 2 = .ok (.iload_n 2, 1) := by decide +kernel
theorem dX8_layerOrigin_3 : decode cX8_layerOrigin 3 = .ok (.iload_n 3, 1) := by decide +kernel
theorem dX8_layerOrigin_4 : decode cX8_layerOrigin 4 = .ok (.invokevirtual 205, 3) := by decide +kernel
theorem dX8_layerOrigin_7 : decode cX8_layerOrigin 7 = .ok (.ifCond .eq 12, 3) := by decide +kernel
theorem dX8_layerOrigin_10 : decode cX8_layerOrigin 10 = .ok (.aload_n 0, 1) := by decide +kernel
theorem dX8_layerOrigin_11 : decode cX8_layerOrigin 11 = .ok (.getfield 64, 3) := by decide +kernel
theorem dX8_layerOrigin_14 : decode cX8_layerOrigin 14 = .ok (.iload_n 3, 1) := by decide +kernel
theorem dX8_layerOrigin_15 : decode cX8_layerOrigin 15 = .ok (.iaload, 1) := by decide +kernel
theorem dX8_layerOrigin_16 : decode cX8_layerOrigin 16 = .ok (.goto 4, 3) := by decide +kernel
theorem dX8_layerOrigin_19 : decode cX8_layerOrigin 19 = .ok (.iconst 0, 1) := by decide +kernel
theorem dX8_layerOrigin_20 : decode cX8_layerOrigin 20 = .ok (.ireturn, 1) := by decide +kernel
theorem dJ9_min_7cf53_0 : decode cJ9_min_7cf53 0 = .ok (.iload_n 0, 1) := by decide +kernel
theorem dJ9_min_7cf53_1 : decode cJ9_min_7cf53 1 = .ok (.iload_n 1, 1) := by decide +kernel
theorem dJ9_min_7cf53_2 : decode cJ9_min_7cf53 2 = .ok (.if_icmp .gt 7, 3) := by decide +kernel
theorem dJ9_min_7cf53_5 : decode cJ9_min_7cf53 5 = .ok (.iload_n 0, 1) := by decide +kernel
theorem dJ9_min_7cf53_6 : decode cJ9_min_7cf53 6 = .ok (.goto 4, 3) := by decide +kernel
theorem dJ9_min_7cf53_9 : decode cJ9_min_7cf53 9 = .ok (.iload_n 1, 1) := by decide +kernel
theorem dJ9_min_7cf53_10 : decode cJ9_min_7cf53 10 = .ok (.ireturn, 1) := by decide +kernel
theorem dL_receive_0 : decode cL_receive 0 = .ok (.aload 5, 2) := by decide +kernel
theorem dL_receive_2 : decode cL_receive 2 = .ok (.iconst 0, 1) := by decide +kernel
theorem dL_receive_3 : decode cL_receive 3 = .ok (.aload_n 0, 1) := by decide +kernel
theorem dL_receive_4 : decode cL_receive 4 = .ok (.iload_n 1, 1) := by decide +kernel
theorem dL_receive_5 : decode cL_receive 5 = .ok (.iload_n 2, 1) := by decide +kernel
theorem dL_receive_6 : decode cL_receive 6 = .ok (.iload_n 3, 1) := by decide +kernel
theorem dL_receive_7 : decode cL_receive 7 = .ok (.iload 4, 2) := by decide +kernel
theorem dL_receive_9 : decode cL_receive 9 = .ok (.invokevirtual 7, 3) := by decide +kernel
theorem dL_receive_12 : decode cL_receive 12 = .ok (.i2l, 1) := by decide +kernel
theorem dL_receive_13 : decode cL_receive 13 = .ok (.lastore, 1) := by decide +kernel
theorem dL_receive_14 : decode cL_receive 14 = .ok (.goto 11, 3) := by decide +kernel
theorem dL_receive_17 : decode cL_receive 17 = .ok (.astore 6, 2) := by decide +kernel
theorem dL_receive_19 : decode cL_receive 19 = .ok (.iconst 1, 1) := by decide +kernel
theorem dL_receive_20 : decode cL_receive 20 = .ok (.ireturn, 1) := by decide +kernel
theorem dL_receive_21 : decode cL_receive 21 = .ok (.astore 6, 2) := by decide +kernel
theorem dL_receive_23 : decode cL_receive 23 = .ok (.iconst 2, 1) := by decide +kernel
theorem dL_receive_24 : decode cL_receive 24 = .ok (.ireturn, 1) := by decide +kernel
theorem dL_receive_25 : decode cL_receive 25 = .ok (.iconst 0, 1) := by decide +kernel
theorem dL_receive_26 : decode cL_receive 26 = .ok (.ireturn, 1) := by decide +kernel
theorem dL_issue_0 : decode cL_issue 0 = .ok (.aload 4, 2) := by decide +kernel
theorem dL_issue_2 : decode cL_issue 2 = .ok (.iconst 0, 1) := by decide +kernel
theorem dL_issue_3 : decode cL_issue 3 = .ok (.aload_n 0, 1) := by decide +kernel
theorem dL_issue_4 : decode cL_issue 4 = .ok (.iload_n 1, 1) := by decide +kernel
theorem dL_issue_5 : decode cL_issue 5 = .ok (.iload_n 2, 1) := by decide +kernel
theorem dL_issue_6 : decode cL_issue 6 = .ok (.iload_n 3, 1) := by decide +kernel
theorem dL_issue_7 : decode cL_issue 7 = .ok (.invokevirtual 17, 3) := by decide +kernel
theorem dL_issue_10 : decode cL_issue 10 = .ok (.i2l, 1) := by decide +kernel
theorem dL_issue_11 : decode cL_issue 11 = .ok (.lastore, 1) := by decide +kernel
theorem dL_issue_12 : decode cL_issue 12 = .ok (.goto 11, 3) := by decide +kernel
theorem dL_issue_15 : decode cL_issue 15 = .ok (.astore 5, 2) := by decide +kernel
theorem dL_issue_17 : decode cL_issue 17 = .ok (.iconst 1, 1) := by decide +kernel
theorem dL_issue_18 : decode cL_issue 18 = .ok (.ireturn, 1) := by decide +kernel
theorem dL_issue_19 : decode cL_issue 19 = .ok (.astore 5, 2) := by decide +kernel
theorem dL_issue_21 : decode cL_issue 21 = .ok (.iconst 2, 1) := by decide +kernel
theorem dL_issue_22 : decode cL_issue 22 = .ok (.ireturn, 1) := by decide +kernel
theorem dL_issue_23 : decode cL_issue 23 = .ok (.iconst 0, 1) := by decide +kernel
theorem dL_issue_24 : decode cL_issue 24 = .ok (.ireturn, 1) := by decide +kernel
theorem dL_revalue_0 : decode cL_revalue 0 = .ok (.aload 5, 2) := by decide +kernel
theorem dL_revalue_2 : decode cL_revalue 2 = .ok (.iconst 0, 1) := by decide +kernel
theorem dL_revalue_3 : decode cL_revalue 3 = .ok (.aload_n 0, 1) := by decide +kernel
theorem dL_revalue_4 : decode cL_revalue 4 = .ok (.iload_n 1, 1) := by decide +kernel
theorem dL_revalue_5 : decode cL_revalue 5 = .ok (.iload_n 2, 1) := by decide +kernel
theorem dL_revalue_6 : decode cL_revalue 6 = .ok (.iload_n 3, 1) := by decide +kernel
theorem dL_revalue_7 : decode cL_revalue 7 = .ok (.iload 4, 2) := by decide +kernel
theorem dL_revalue_9 : decode cL_revalue 9 = .ok (.invokevirtual 21, 3) := by decide +kernel
theorem dL_revalue_12 : decode cL_revalue 12 = .ok (.i2l, 1) := by decide +kernel
theorem dL_revalue_13 : decode cL_revalue 13 = .ok (.lastore, 1) := by decide +kernel
theorem dL_revalue_14 : decode cL_revalue 14 = .ok (.goto 11, 3) := by decide +kernel
theorem dL_revalue_17 : decode cL_revalue 17 = .ok (.astore 6, 2) := by decide +kernel
theorem dL_revalue_19 : decode cL_revalue 19 = .ok (.iconst 1, 1) := by decide +kernel
theorem dL_revalue_20 : decode cL_revalue 20 = .ok (.ireturn, 1) := by decide +kernel
theorem dL_revalue_21 : decode cL_revalue 21 = .ok (.astore 6, 2) := by decide +kernel
theorem dL_revalue_23 : decode cL_revalue 23 = .ok (.iconst 2, 1) := by decide +kernel
theorem dL_revalue_24 : decode cL_revalue 24 = .ok (.ireturn, 1) := by decide +kernel
theorem dL_revalue_25 : decode cL_revalue 25 = .ok (.iconst 0, 1) := by decide +kernel
theorem dL_revalue_26 : decode cL_revalue 26 = .ok (.ireturn, 1) := by decide +kernel
theorem dL_land_0 : decode cL_land 0 = .ok (.aload 6, 2) := by decide +kernel
theorem dL_land_2 : decode cL_land 2 = .ok (.iconst 0, 1) := by decide +kernel
theorem dL_land_3 : decode cL_land 3 = .ok (.aload_n 0, 1) := by decide +kernel
theorem dL_land_4 : decode cL_land 4 = .ok (.iload_n 1, 1) := by decide +kernel
theorem dL_land_5 : decode cL_land 5 = .ok (.iload_n 2, 1) := by decide +kernel
theorem dL_land_6 : decode cL_land 6 = .ok (.iload_n 3, 1) := by decide +kernel
theorem dL_land_7 : decode cL_land 7 = .ok (.lload 4, 2) := by decide +kernel
theorem dL_land_9 : decode cL_land 9 = .ok (.invokevirtual 24, 3) := by decide +kernel
theorem dL_land_12 : decode cL_land 12 = .ok (.i2l, 1) := by decide +kernel
theorem dL_land_13 : decode cL_land 13 = .ok (.lastore, 1) := by decide +kernel
theorem dL_land_14 : decode cL_land 14 = .ok (.goto 15, 3) := by decide +kernel
theorem dL_land_17 : decode cL_land 17 = .ok (.astore 7, 2) := by decide +kernel
theorem dL_land_19 : decode cL_land 19 = .ok (.iconst 1, 1) := by decide +kernel
theorem dL_land_20 : decode cL_land 20 = .ok (.ireturn, 1) := by decide +kernel
theorem dL_land_21 : decode cL_land 21 = .ok (.astore 7, 2) := by decide +kernel
theorem dL_land_23 : decode cL_land 23 = .ok (.iconst 2, 1) := by decide +kernel
theorem dL_land_24 : decode cL_land 24 = .ok (.ireturn, 1) := by decide +kernel
theorem dL_land_25 : decode cL_land 25 = .ok (.astore 7, 2) := by decide +kernel
theorem dL_land_27 : decode cL_land 27 = .ok (.iconst 3, 1) := by decide +kernel
theorem dL_land_28 : decode cL_land 28 = .ok (.ireturn, 1) := by decide +kernel
theorem dL_land_29 : decode cL_land 29 = .ok (.iconst 0, 1) := by decide +kernel
theorem dL_land_30 : decode cL_land 30 = .ok (.ireturn, 1) := by decide +kernel
theorem dL_cancel_0 : decode cL_cancel 0 = .ok (.aload_n 2, 1) := by decide +kernel
theorem dL_cancel_1 : decode cL_cancel 1 = .ok (.iconst 0, 1) := by decide +kernel
theorem dL_cancel_2 : decode cL_cancel 2 = .ok (.aload_n 0, 1) := by decide +kernel
theorem dL_cancel_3 : decode cL_cancel 3 = .ok (.iload_n 1, 1) := by decide +kernel
theorem dL_cancel_4 : decode cL_cancel 4 = .ok (.invokevirtual 30, 3) := by decide +kernel
theorem dL_cancel_7 : decode cL_cancel 7 = .ok (.i2l, 1) := by decide +kernel
theorem dL_cancel_8 : decode cL_cancel 8 = .ok (.lastore, 1) := by decide +kernel
theorem dL_cancel_9 : decode cL_cancel 9 = .ok (.goto 9, 3) := by decide +kernel
theorem dL_cancel_12 : decode cL_cancel 12 = .ok (.astore_n 3, 1) := by decide +kernel
theorem dL_cancel_13 : decode cL_cancel 13 = .ok (.iconst 1, 1) := by decide +kernel
theorem dL_cancel_14 : decode cL_cancel 14 = .ok (.ireturn, 1) := by decide +kernel
theorem dL_cancel_15 : decode cL_cancel 15 = .ok (.astore_n 3, 1) := by decide +kernel
theorem dL_cancel_16 : decode cL_cancel 16 = .ok (.iconst 2, 1) := by decide +kernel
theorem dL_cancel_17 : decode cL_cancel 17 = .ok (.ireturn, 1) := by decide +kernel
theorem dL_cancel_18 : decode cL_cancel 18 = .ok (.iconst 0, 1) := by decide +kernel
theorem dL_cancel_19 : decode cL_cancel 19 = .ok (.ireturn, 1) := by decide +kernel
theorem dL_close_0 : decode cL_close 0 = .ok (.aload_n 2, 1) := by decide +kernel
theorem dL_close_1 : decode cL_close 1 = .ok (.iconst 0, 1) := by decide +kernel
theorem dL_close_2 : decode cL_close 2 = .ok (.aload_n 0, 1) := by decide +kernel
theorem dL_close_3 : decode cL_close 3 = .ok (.iload_n 1, 1) := by decide +kernel
theorem dL_close_4 : decode cL_close 4 = .ok (.invokevirtual 34, 3) := by decide +kernel
theorem dL_close_7 : decode cL_close 7 = .ok (.i2l, 1) := by decide +kernel
theorem dL_close_8 : decode cL_close 8 = .ok (.lastore, 1) := by decide +kernel
theorem dL_close_9 : decode cL_close 9 = .ok (.goto 9, 3) := by decide +kernel
theorem dL_close_12 : decode cL_close 12 = .ok (.astore_n 3, 1) := by decide +kernel
theorem dL_close_13 : decode cL_close 13 = .ok (.iconst 1, 1) := by decide +kernel
theorem dL_close_14 : decode cL_close 14 = .ok (.ireturn, 1) := by decide +kernel
theorem dL_close_15 : decode cL_close 15 = .ok (.astore_n 3, 1) := by decide +kernel
theorem dL_close_16 : decode cL_close 16 = .ok (.iconst 2, 1) := by decide +kernel
theorem dL_close_17 : decode cL_close 17 = .ok (.ireturn, 1) := by decide +kernel
theorem dL_close_18 : decode cL_close 18 = .ok (.iconst 0, 1) := by decide +kernel
theorem dL_close_19 : decode cL_close 19 = .ok (.ireturn, 1) := by decide +kernel
theorem dL_setWeight_0 : decode cL_setWeight 0 = .ok (.aload_n 3, 1) := by decide +kernel
theorem dL_setWeight_1 : decode cL_setWeight 1 = .ok (.iconst 0, 1) := by decide +kernel
theorem dL_setWeight_2 : decode cL_setWeight 2 = .ok (.aload_n 0, 1) := by decide +kernel
theorem dL_setWeight_3 : decode cL_setWeight 3 = .ok (.iload_n 1, 1) := by decide +kernel
theorem dL_setWeight_4 : decode cL_setWeight 4 = .ok (.iload_n 2, 1) := by decide +kernel
theorem dL_setWeight_5 : decode cL_setWeight 5 = .ok (.invokevirtual 37, 3) := by decide +kernel
theorem dL_setWeight_8 : decode cL_setWeight 8 = .ok (.i2l, 1) := by decide +kernel
theorem dL_setWeight_9 : decode cL_setWeight 9 = .ok (.lastore, 1) := by decide +kernel
theorem dL_setWeight_10 : decode cL_setWeight 10 = .ok (.goto 7, 3) := by decide +kernel
theorem dL_setWeight_13 : decode cL_setWeight 13 = .ok (.astore 4, 2) := by decide +kernel
theorem dL_setWeight_15 : decode cL_setWeight 15 = .ok (.iconst 1, 1) := by decide +kernel
theorem dL_setWeight_16 : decode cL_setWeight 16 = .ok (.ireturn, 1) := by decide +kernel
theorem dL_setWeight_17 : decode cL_setWeight 17 = .ok (.iconst 0, 1) := by decide +kernel
theorem dL_setWeight_18 : decode cL_setWeight 18 = .ok (.ireturn, 1) := by decide +kernel
theorem dL_kindOf_0 : decode cL_kindOf 0 = .ok (.aload_n 2, 1) := by decide +kernel
theorem dL_kindOf_1 : decode cL_kindOf 1 = .ok (.iconst 0, 1) := by decide +kernel
theorem dL_kindOf_2 : decode cL_kindOf 2 = .ok (.aload_n 0, 1) := by decide +kernel
theorem dL_kindOf_3 : decode cL_kindOf 3 = .ok (.iload_n 1, 1) := by decide +kernel
theorem dL_kindOf_4 : decode cL_kindOf 4 = .ok (.invokevirtual 41, 3) := by decide +kernel
theorem dL_kindOf_7 : decode cL_kindOf 7 = .ok (.i2l, 1) := by decide +kernel
theorem dL_kindOf_8 : decode cL_kindOf 8 = .ok (.lastore, 1) := by decide +kernel
theorem dL_kindOf_9 : decode cL_kindOf 9 = .ok (.goto 6, 3) := by decide +kernel
theorem dL_kindOf_12 : decode cL_kindOf 12 = .ok (.astore_n 3, 1) := by decide +kernel
theorem dL_kindOf_13 : decode cL_kindOf 13 = .ok (.iconst 1, 1) := by decide +kernel
theorem dL_kindOf_14 : decode cL_kindOf 14 = .ok (.ireturn, 1) := by decide +kernel
theorem dL_kindOf_15 : decode cL_kindOf 15 = .ok (.iconst 0, 1) := by decide +kernel
theorem dL_kindOf_16 : decode cL_kindOf 16 = .ok (.ireturn, 1) := by decide +kernel
theorem dL_dayOf_0 : decode cL_dayOf 0 = .ok (.aload_n 2, 1) := by decide +kernel
theorem dL_dayOf_1 : decode cL_dayOf 1 = .ok (.iconst 0, 1) := by decide +kernel
theorem dL_dayOf_2 : decode cL_dayOf 2 = .ok (.aload_n 0, 1) := by decide +kernel
theorem dL_dayOf_3 : decode cL_dayOf 3 = .ok (.iload_n 1, 1) := by decide +kernel
theorem dL_dayOf_4 : decode cL_dayOf 4 = .ok (.invokevirtual 44, 3) := by decide +kernel
theorem dL_dayOf_7 : decode cL_dayOf 7 = .ok (.i2l, 1) := by decide +kernel
theorem dL_dayOf_8 : decode cL_dayOf 8 = .ok (.lastore, 1) := by decide +kernel
theorem dL_dayOf_9 : decode cL_dayOf 9 = .ok (.goto 6, 3) := by decide +kernel
theorem dL_dayOf_12 : decode cL_dayOf 12 = .ok (.astore_n 3, 1) := by decide +kernel
theorem dL_dayOf_13 : decode cL_dayOf 13 = .ok (.iconst 1, 1) := by decide +kernel
theorem dL_dayOf_14 : decode cL_dayOf 14 = .ok (.ireturn, 1) := by decide +kernel
theorem dL_dayOf_15 : decode cL_dayOf 15 = .ok (.iconst 0, 1) := by decide +kernel
theorem dL_dayOf_16 : decode cL_dayOf 16 = .ok (.ireturn, 1) := by decide +kernel
theorem dL_isCancelled_0 : decode cL_isCancelled 0 = .ok (.aload_n 2, 1) := by decide +kernel
theorem dL_isCancelled_1 : decode cL_isCancelled 1 = .ok (.iconst 0, 1) := by decide +kernel
theorem dL_isCancelled_2 : decode cL_isCancelled 2 = .ok (.aload_n 0, 1) := by decide +kernel
theorem dL_isCancelled_3 : decode cL_isCancelled 3 = .ok (.iload_n 1, 1) := by decide +kernel
theorem dL_isCancelled_4 : decode cL_isCancelled 4 = .ok (.invokevirtual 47, 3) := by decide +kernel
theorem dL_isCancelled_7 : decode cL_isCancelled 7 = .ok (.ifCond .eq 7, 3) := by decide +kernel
theorem dL_isCancelled_10 : decode cL_isCancelled 10 = .ok (.lconst 1, 1) := by decide +kernel
theorem dL_isCancelled_11 : decode cL_isCancelled 11 = .ok (.goto 4, 3) := by decide +kernel
theorem dL_isCancelled_14 : decode cL_isCancelled 14 = .ok (.lconst 0, 1) := by decide +kernel
theorem dL_isCancelled_15 : decode cL_isCancelled 15 = .ok (.lastore, 1) := by decide +kernel
theorem dL_isCancelled_16 : decode cL_isCancelled 16 = .ok (.goto 6, 3) := by decide +kernel
theorem dL_isCancelled_19 : decode cL_isCancelled 19 = .ok (.astore_n 3, 1) := by decide +kernel
theorem dL_isCancelled_20 : decode cL_isCancelled 20 = .ok (.iconst 1, 1) := by decide +kernel
theorem dL_isCancelled_21 : decode cL_isCancelled 21 = .ok (.ireturn, 1) := by decide +kernel
theorem dL_isCancelled_22 : decode cL_isCancelled 22 = .ok (.iconst 0, 1) := by decide +kernel
theorem dL_isCancelled_23 : decode cL_isCancelled 23 = .ok (.ireturn, 1) := by decide +kernel
theorem dL_placeOf_0 : decode cL_placeOf 0 = .ok (.aload_n 2, 1) := by decide +kernel
theorem dL_placeOf_1 : decode cL_placeOf 1 = .ok (.iconst 0, 1) := by decide +kernel
theorem dL_placeOf_2 : decode cL_placeOf 2 = .ok (.aload_n 0, 1) := by decide +kernel
theorem dL_placeOf_3 : decode cL_placeOf 3 = .ok (.iload_n 1, 1) := by decide +kernel
theorem dL_placeOf_4 : decode cL_placeOf 4 = .ok (.invokevirtual 51, 3) := by decide +kernel
theorem dL_placeOf_7 : decode cL_placeOf 7 = .ok (.i2l, 1) := by decide +kernel
theorem dL_placeOf_8 : decode cL_placeOf 8 = .ok (.lastore, 1) := by decide +kernel
theorem dL_placeOf_9 : decode cL_placeOf 9 = .ok (.goto 6, 3) := by decide +kernel
theorem dL_placeOf_12 : decode cL_placeOf 12 = .ok (.astore_n 3, 1) := by decide +kernel
theorem dL_placeOf_13 : decode cL_placeOf 13 = .ok (.iconst 1, 1) := by decide +kernel
theorem dL_placeOf_14 : decode cL_placeOf 14 = .ok (.ireturn, 1) := by decide +kernel
theorem dL_placeOf_15 : decode cL_placeOf 15 = .ok (.iconst 0, 1) := by decide +kernel
theorem dL_placeOf_16 : decode cL_placeOf 16 = .ok (.ireturn, 1) := by decide +kernel
theorem dL_partOf_0 : decode cL_partOf 0 = .ok (.aload_n 3, 1) := by decide +kernel
theorem dL_partOf_1 : decode cL_partOf 1 = .ok (.iconst 0, 1) := by decide +kernel
theorem dL_partOf_2 : decode cL_partOf 2 = .ok (.aload_n 0, 1) := by decide +kernel
theorem dL_partOf_3 : decode cL_partOf 3 = .ok (.iload_n 1, 1) := by decide +kernel
theorem dL_partOf_4 : decode cL_partOf 4 = .ok (.iload_n 2, 1) := by decide +kernel
theorem dL_partOf_5 : decode cL_partOf 5 = .ok (.invokevirtual 54, 3) := by decide +kernel
theorem dL_partOf_8 : decode cL_partOf 8 = .ok (.i2l, 1) := by decide +kernel
theorem dL_partOf_9 : decode cL_partOf 9 = .ok (.lastore, 1) := by decide +kernel
theorem dL_partOf_10 : decode cL_partOf 10 = .ok (.goto 11, 3) := by decide +kernel
theorem dL_partOf_13 : decode cL_partOf 13 = .ok (.astore 4, 2) := by decide +kernel
theorem dL_partOf_15 : decode cL_partOf 15 = .ok (.iconst 1, 1) := by decide +kernel
theorem dL_partOf_16 : decode cL_partOf 16 = .ok (.ireturn, 1) := by decide +kernel
theorem dL_partOf_17 : decode cL_partOf 17 = .ok (.astore 4, 2) := by decide +kernel
theorem dL_partOf_19 : decode cL_partOf 19 = .ok (.iconst 2, 1) := by decide +kernel
theorem dL_partOf_20 : decode cL_partOf 20 = .ok (.ireturn, 1) := by decide +kernel
theorem dL_partOf_21 : decode cL_partOf 21 = .ok (.iconst 0, 1) := by decide +kernel
theorem dL_partOf_22 : decode cL_partOf 22 = .ok (.ireturn, 1) := by decide +kernel
theorem dL_costOf_0 : decode cL_costOf 0 = .ok (.aload_n 3, 1) := by decide +kernel
theorem dL_costOf_1 : decode cL_costOf 1 = .ok (.iconst 0, 1) := by decide +kernel
theorem dL_costOf_2 : decode cL_costOf 2 = .ok (.aload_n 0, 1) := by decide +kernel
theorem dL_costOf_3 : decode cL_costOf 3 = .ok (.iload_n 1, 1) := by decide +kernel
theorem dL_costOf_4 : decode cL_costOf 4 = .ok (.iload_n 2, 1) := by decide +kernel
theorem dL_costOf_5 : decode cL_costOf 5 = .ok (.invokevirtual 57, 3) := by decide +kernel
theorem dL_costOf_8 : decode cL_costOf 8 = .ok (.lastore, 1) := by decide +kernel
theorem dL_costOf_9 : decode cL_costOf 9 = .ok (.goto 11, 3) := by decide +kernel
theorem dL_costOf_12 : decode cL_costOf 12 = .ok (.astore 4, 2) := by decide +kernel
theorem dL_costOf_14 : decode cL_costOf 14 = .ok (.iconst 1, 1) := by decide +kernel
theorem dL_costOf_15 : decode cL_costOf 15 = .ok (.ireturn, 1) := by decide +kernel
theorem dL_costOf_16 : decode cL_costOf 16 = .ok (.astore 4, 2) := by decide +kernel
theorem dL_costOf_18 : decode cL_costOf 18 = .ok (.iconst 2, 1) := by decide +kernel
theorem dL_costOf_19 : decode cL_costOf 19 = .ok (.ireturn, 1) := by decide +kernel
theorem dL_costOf_20 : decode cL_costOf 20 = .ok (.iconst 0, 1) := by decide +kernel
theorem dL_costOf_21 : decode cL_costOf 21 = .ok (.ireturn, 1) := by decide +kernel
theorem dL_onHand_0 : decode cL_onHand 0 = .ok (.aload_n 3, 1) := by decide +kernel
theorem dL_onHand_1 : decode cL_onHand 1 = .ok (.iconst 0, 1) := by decide +kernel
theorem dL_onHand_2 : decode cL_onHand 2 = .ok (.aload_n 0, 1) := by decide +kernel
theorem dL_onHand_3 : decode cL_onHand 3 = .ok (.iload_n 1, 1) := by decide +kernel
theorem dL_onHand_4 : decode cL_onHand 4 = .ok (.iload_n 2, 1) := by decide +kernel
theorem dL_onHand_5 : decode cL_onHand 5 = .ok (.invokevirtual 61, 3) := by decide +kernel
theorem dL_onHand_8 : decode cL_onHand 8 = .ok (.i2l, 1) := by decide +kernel
theorem dL_onHand_9 : decode cL_onHand 9 = .ok (.lastore, 1) := by decide +kernel
theorem dL_onHand_10 : decode cL_onHand 10 = .ok (.goto 7, 3) := by decide +kernel
theorem dL_onHand_13 : decode cL_onHand 13 = .ok (.astore 4, 2) := by decide +kernel
theorem dL_onHand_15 : decode cL_onHand 15 = .ok (.iconst 1, 1) := by decide +kernel
theorem dL_onHand_16 : decode cL_onHand 16 = .ok (.ireturn, 1) := by decide +kernel
theorem dL_onHand_17 : decode cL_onHand 17 = .ok (.iconst 0, 1) := by decide +kernel
theorem dL_onHand_18 : decode cL_onHand 18 = .ok (.ireturn, 1) := by decide +kernel
theorem dL_available_0 : decode cL_available 0 = .ok (.aload_n 3, 1) := by decide +kernel
theorem dL_available_1 : decode cL_available 1 = .ok (.iconst 0, 1) := by decide +kernel
theorem dL_available_2 : decode cL_available 2 = .ok (.aload_n 0, 1) := by decide +kernel
theorem dL_available_3 : decode cL_available 3 = .ok (.iload_n 1, 1) := by decide +kernel
theorem dL_available_4 : decode cL_available 4 = .ok (.iload_n 2, 1) := by decide +kernel
theorem dL_available_5 : decode cL_available 5 = .ok (.invokevirtual 64, 3) := by decide +kernel
theorem dL_available_8 : decode cL_available 8 = .ok (.i2l, 1) := by decide +kernel
theorem dL_available_9 : decode cL_available 9 = .ok (.lastore, 1) := by decide +kernel
theorem dL_available_10 : decode cL_available 10 = .ok (.goto 7, 3) := by decide +kernel
theorem dL_available_13 : decode cL_available 13 = .ok (.astore 4, 2) := by decide +kernel
theorem dL_available_15 : decode cL_available 15 = .ok (.iconst 1, 1) := by decide +kernel
theorem dL_available_16 : decode cL_available 16 = .ok (.ireturn, 1) := by decide +kernel
theorem dL_available_17 : decode cL_available 17 = .ok (.iconst 0, 1) := by decide +kernel
theorem dL_available_18 : decode cL_available 18 = .ok (.ireturn, 1) := by decide +kernel
theorem dL_value_0 : decode cL_value 0 = .ok (.aload 4, 2) := by decide +kernel
theorem dL_value_2 : decode cL_value 2 = .ok (.iconst 0, 1) := by decide +kernel
theorem dL_value_3 : decode cL_value 3 = .ok (.aload_n 0, 1) := by decide +kernel
theorem dL_value_4 : decode cL_value 4 = .ok (.iload_n 1, 1) := by decide +kernel
theorem dL_value_5 : decode cL_value 5 = .ok (.iload_n 2, 1) := by decide +kernel
theorem dL_value_6 : decode cL_value 6 = .ok (.iload_n 3, 1) := by decide +kernel
theorem dL_value_7 : decode cL_value 7 = .ok (.invokevirtual 67, 3) := by decide +kernel
theorem dL_value_10 : decode cL_value 10 = .ok (.lastore, 1) := by decide +kernel
theorem dL_value_11 : decode cL_value 11 = .ok (.goto 7, 3) := by decide +kernel
theorem dL_value_14 : decode cL_value 14 = .ok (.astore 5, 2) := by decide +kernel
theorem dL_value_16 : decode cL_value 16 = .ok (.iconst 1, 1) := by decide +kernel
theorem dL_value_17 : decode cL_value 17 = .ok (.ireturn, 1) := by decide +kernel
theorem dL_value_18 : decode cL_value 18 = .ok (.iconst 0, 1) := by decide +kernel
theorem dL_value_19 : decode cL_value 19 = .ok (.ireturn, 1) := by decide +kernel
theorem dL_received_0 : decode cL_received 0 = .ok (.aload_n 3, 1) := by decide +kernel
theorem dL_received_1 : decode cL_received 1 = .ok (.iconst 0, 1) := by decide +kernel
theorem dL_received_2 : decode cL_received 2 = .ok (.aload_n 0, 1) := by decide +kernel
theorem dL_received_3 : decode cL_received 3 = .ok (.iload_n 1, 1) := by decide +kernel
theorem dL_received_4 : decode cL_received 4 = .ok (.iload_n 2, 1) := by decide +kernel
theorem dL_received_5 : decode cL_received 5 = .ok (.invokevirtual 71, 3) := by decide +kernel
theorem dL_received_8 : decode cL_received 8 = .ok (.lastore, 1) := by decide +kernel
theorem dL_received_9 : decode cL_received 9 = .ok (.goto 7, 3) := by decide +kernel
theorem dL_received_12 : decode cL_received 12 = .ok (.astore 4, 2) := by decide +kernel
theorem dL_received_14 : decode cL_received 14 = .ok (.iconst 1, 1) := by decide +kernel
theorem dL_received_15 : decode cL_received 15 = .ok (.ireturn, 1) := by decide +kernel
theorem dL_received_16 : decode cL_received 16 = .ok (.iconst 0, 1) := by decide +kernel
theorem dL_received_17 : decode cL_received 17 = .ok (.ireturn, 1) := by decide +kernel
theorem dL_issued_0 : decode cL_issued 0 = .ok (.aload 4, 2) := by decide +kernel
theorem dL_issued_2 : decode cL_issued 2 = .ok (.iconst 0, 1) := by decide +kernel
theorem dL_issued_3 : decode cL_issued 3 = .ok (.aload_n 0, 1) := by decide +kernel
theorem dL_issued_4 : decode cL_issued 4 = .ok (.iload_n 1, 1) := by decide +kernel
theorem dL_issued_5 : decode cL_issued 5 = .ok (.iload_n 2, 1) := by decide +kernel
theorem dL_issued_6 : decode cL_issued 6 = .ok (.iload_n 3, 1) := by decide +kernel
theorem dL_issued_7 : decode cL_issued 7 = .ok (.invokevirtual 75, 3) := by decide +kernel
theorem dL_issued_10 : decode cL_issued 10 = .ok (.lastore, 1) := by decide +kernel
theorem dL_issued_11 : decode cL_issued 11 = .ok (.goto 7, 3) := by decide +kernel
theorem dL_issued_14 : decode cL_issued 14 = .ok (.astore 5, 2) := by decide +kernel
theorem dL_issued_16 : decode cL_issued 16 = .ok (.iconst 1, 1) := by decide +kernel
theorem dL_issued_17 : decode cL_issued 17 = .ok (.ireturn, 1) := by decide +kernel
theorem dL_issued_18 : decode cL_issued 18 = .ok (.iconst 0, 1) := by decide +kernel
theorem dL_issued_19 : decode cL_issued 19 = .ok (.ireturn, 1) := by decide +kernel
theorem dL_revalued_0 : decode cL_revalued 0 = .ok (.aload 4, 2) := by decide +kernel
theorem dL_revalued_2 : decode cL_revalued 2 = .ok (.iconst 0, 1) := by decide +kernel
theorem dL_revalued_3 : decode cL_revalued 3 = .ok (.aload_n 0, 1) := by decide +kernel
theorem dL_revalued_4 : decode cL_revalued 4 = .ok (.iload_n 1, 1) := by decide +kernel
theorem dL_revalued_5 : decode cL_revalued 5 = .ok (.iload_n 2, 1) := by decide +kernel
theorem dL_revalued_6 : decode cL_revalued 6 = .ok (.iload_n 3, 1) := by decide +kernel
theorem dL_revalued_7 : decode cL_revalued 7 = .ok (.invokevirtual 78, 3) := by decide +kernel
theorem dL_revalued_10 : decode cL_revalued 10 = .ok (.lastore, 1) := by decide +kernel
theorem dL_revalued_11 : decode cL_revalued 11 = .ok (.goto 7, 3) := by decide +kernel
theorem dL_revalued_14 : decode cL_revalued 14 = .ok (.astore 5, 2) := by decide +kernel
theorem dL_revalued_16 : decode cL_revalued 16 = .ok (.iconst 1, 1) := by decide +kernel
theorem dL_revalued_17 : decode cL_revalued 17 = .ok (.ireturn, 1) := by decide +kernel
theorem dL_revalued_18 : decode cL_revalued 18 = .ok (.iconst 0, 1) := by decide +kernel
theorem dL_revalued_19 : decode cL_revalued 19 = .ok (.ireturn, 1) := by decide +kernel
theorem dL_expensed_0 : decode cL_expensed 0 = .ok (.aload 4, 2) := by decide +kernel
theorem dL_expensed_2 : decode cL_expensed 2 = .ok (.iconst 0, 1) := by decide +kernel
theorem dL_expensed_3 : decode cL_expensed 3 = .ok (.aload_n 0, 1) := by decide +kernel
theorem dL_expensed_4 : decode cL_expensed 4 = .ok (.iload_n 1, 1) := by decide +kernel
theorem dL_expensed_5 : decode cL_expensed 5 = .ok (.iload_n 2, 1) := by decide +kernel
theorem dL_expensed_6 : decode cL_expensed 6 = .ok (.iload_n 3, 1) := by decide +kernel
theorem dL_expensed_7 : decode cL_expensed 7 = .ok (.invokevirtual 81, 3) := by decide +kernel
theorem dL_expensed_10 : decode cL_expensed 10 = .ok (.lastore, 1) := by decide +kernel
theorem dL_expensed_11 : decode cL_expensed 11 = .ok (.goto 7, 3) := by decide +kernel
theorem dL_expensed_14 : decode cL_expensed 14 = .ok (.astore 5, 2) := by decide +kernel
theorem dL_expensed_16 : decode cL_expensed 16 = .ok (.iconst 1, 1) := by decide +kernel
theorem dL_expensed_17 : decode cL_expensed 17 = .ok (.ireturn, 1) := by decide +kernel
theorem dL_expensed_18 : decode cL_expensed 18 = .ok (.iconst 0, 1) := by decide +kernel
theorem dL_expensed_19 : decode cL_expensed 19 = .ok (.ireturn, 1) := by decide +kernel
theorem dL_layers_0 : decode cL_layers 0 = .ok (.aload_n 3, 1) := by decide +kernel
theorem dL_layers_1 : decode cL_layers 1 = .ok (.iconst 0, 1) := by decide +kernel
theorem dL_layers_2 : decode cL_layers 2 = .ok (.aload_n 0, 1) := by decide +kernel
theorem dL_layers_3 : decode cL_layers 3 = .ok (.iload_n 1, 1) := by decide +kernel
theorem dL_layers_4 : decode cL_layers 4 = .ok (.iload_n 2, 1) := by decide +kernel
theorem dL_layers_5 : decode cL_layers 5 = .ok (.invokevirtual 84, 3) := by decide +kernel
theorem dL_layers_8 : decode cL_layers 8 = .ok (.i2l, 1) := by decide +kernel
theorem dL_layers_9 : decode cL_layers 9 = .ok (.lastore, 1) := by decide +kernel
theorem dL_layers_10 : decode cL_layers 10 = .ok (.goto 7, 3) := by decide +kernel
theorem dL_layers_13 : decode cL_layers 13 = .ok (.astore 4, 2) := by decide +kernel
theorem dL_layers_15 : decode cL_layers 15 = .ok (.iconst 1, 1) := by decide +kernel
theorem dL_layers_16 : decode cL_layers 16 = .ok (.ireturn, 1) := by decide +kernel
theorem dL_layers_17 : decode cL_layers 17 = .ok (.iconst 0, 1) := by decide +kernel
theorem dL_layers_18 : decode cL_layers 18 = .ok (.ireturn, 1) := by decide +kernel
theorem dL_layerQuantity_0 : decode cL_layerQuantity 0 = .ok (.aload 4, 2) := by decide +kernel
theorem dL_layerQuantity_2 : decode cL_layerQuantity 2 = .ok (.iconst 0, 1) := by decide +kernel
theorem dL_layerQuantity_3 : decode cL_layerQuantity 3 = .ok (.aload_n 0, 1) := by decide +kernel
theorem dL_layerQuantity_4 : decode cL_layerQuantity 4 = .ok (.iload_n 1, 1) := by decide +kernel
theorem dL_layerQuantity_5 : decode cL_layerQuantity 5 = .ok (.iload_n 2, 1) := by decide +kernel
theorem dL_layerQuantity_6 : decode cL_layerQuantity 6 = .ok (.iload_n 3, 1) := by decide +kernel
theorem dL_layerQuantity_7 : decode cL_layerQuantity 7 = .ok (.invokevirtual 87, 3) := by decide +kernel
theorem dL_layerQuantity_10 : decode cL_layerQuantity 10 = .ok (.i2l, 1) := by decide +kernel
theorem dL_layerQuantity_11 : decode cL_layerQuantity 11 = .ok (.lastore, 1) := by decide +kernel
theorem dL_layerQuantity_12 : decode cL_layerQuantity 12 = .ok (.goto 11, 3) := by decide +kernel
theorem dL_layerQuantity_15 : decode cL_layerQuantity 15 = .ok (.astore 5, 2) := by decide +kernel
theorem dL_layerQuantity_17 : decode cL_layerQuantity 17 = .ok (.iconst 1, 1) := by decide +kernel
theorem dL_layerQuantity_18 : decode cL_layerQuantity 18 = .ok (.ireturn, 1) := by decide +kernel
theorem dL_layerQuantity_19 : decode cL_layerQuantity 19 = .ok (.astore 5, 2) := by decide +kernel
theorem dL_layerQuantity_21 : decode cL_layerQuantity 21 = .ok (.iconst 2, 1) := by decide +kernel
theorem dL_layerQuantity_22 : decode cL_layerQuantity 22 = .ok (.ireturn, 1) := by decide +kernel
theorem dL_layerQuantity_23 : decode cL_layerQuantity 23 = .ok (.iconst 0, 1) := by decide +kernel
theorem dL_layerQuantity_24 : decode cL_layerQuantity 24 = .ok (.ireturn, 1) := by decide +kernel
theorem dL_layerCost_0 : decode cL_layerCost 0 = .ok (.aload 4, 2) := by decide +kernel
theorem dL_layerCost_2 : decode cL_layerCost 2 = .ok (.iconst 0, 1) := by decide +kernel
theorem dL_layerCost_3 : decode cL_layerCost 3 = .ok (.aload_n 0, 1) := by decide +kernel
theorem dL_layerCost_4 : decode cL_layerCost 4 = .ok (.iload_n 1, 1) := by decide +kernel
theorem dL_layerCost_5 : decode cL_layerCost 5 = .ok (.iload_n 2, 1) := by decide +kernel
theorem dL_layerCost_6 : decode cL_layerCost 6 = .ok (.iload_n 3, 1) := by decide +kernel
theorem dL_layerCost_7 : decode cL_layerCost 7 = .ok (.invokevirtual 90, 3) := by decide +kernel
theorem dL_layerCost_10 : decode cL_layerCost 10 = .ok (.lastore, 1) := by decide +kernel
theorem dL_layerCost_11 : decode cL_layerCost 11 = .ok (.goto 11, 3) := by decide +kernel
theorem dL_layerCost_14 : decode cL_layerCost 14 = .ok (.astore 5, 2) := by decide +kernel
theorem dL_layerCost_16 : decode cL_layerCost 16 = .ok (.iconst 1, 1) := by decide +kernel
theorem dL_layerCost_17 : decode cL_layerCost 17 = .ok (.ireturn, 1) := by decide +kernel
theorem dL_layerCost_18 : decode cL_layerCost 18 = .ok (.astore 5, 2) := by decide +kernel
theorem dL_layerCost_20 : decode cL_layerCost 20 = .ok (.iconst 2, 1) := by decide +kernel
theorem dL_layerCost_21 : decode cL_layerCost 21 = .ok (.ireturn, 1) := by decide +kernel
theorem dL_layerCost_22 : decode cL_layerCost 22 = .ok (.iconst 0, 1) := by decide +kernel
theorem dL_layerCost_23 : decode cL_layerCost 23 = .ok (.ireturn, 1) := by decide +kernel
theorem dL_layerOrigin_0 : decode cL_layerOrigin 0 = .ok (.aload 4, 2) := by decide +kernel
theorem dL_layerOrigin_2 : decode cL_layerOrigin 2 = .ok (.iconst 0, 1) := by decide +kernel
theorem dL_layerOrigin_3 : decode cL_layerOrigin 3 = .ok (.aload_n 0, 1) := by decide +kernel
theorem dL_layerOrigin_4 : decode cL_layerOrigin 4 = .ok (.iload_n 1, 1) := by decide +kernel
theorem dL_layerOrigin_5 : decode cL_layerOrigin 5 = .ok (.iload_n 2, 1) := by decide +kernel
theorem dL_layerOrigin_6 : decode cL_layerOrigin 6 = .ok (.iload_n 3, 1) := by decide +kernel
theorem dL_layerOrigin_7 : decode cL_layerOrigin 7 = .ok (.invokevirtual 94, 3) := by decide +kernel
theorem dL_layerOrigin_10 : decode cL_layerOrigin 10 = .ok (.i2l, 1) := by decide +kernel
theorem dL_layerOrigin_11 : decode cL_layerOrigin 11 = .ok (.lastore, 1) := by decide +kernel
theorem dL_layerOrigin_12 : decode cL_layerOrigin 12 = .ok (.goto 11, 3) := by decide +kernel
theorem dL_layerOrigin_15 : decode cL_layerOrigin 15 = .ok (.astore 5, 2) := by decide +kernel
theorem dL_layerOrigin_17 : decode cL_layerOrigin 17 = .ok (.iconst 1, 1) := by decide +kernel
theorem dL_layerOrigin_18 : decode cL_layerOrigin 18 = .ok (.ireturn, 1) := by decide +kernel
theorem dL_layerOrigin_19 : decode cL_layerOrigin 19 = .ok (.astore 5, 2) := by decide +kernel
theorem dL_layerOrigin_21 : decode cL_layerOrigin 21 = .ok (.iconst 2, 1) := by decide +kernel
theorem dL_layerOrigin_22 : decode cL_layerOrigin 22 = .ok (.ireturn, 1) := by decide +kernel
theorem dL_layerOrigin_23 : decode cL_layerOrigin 23 = .ok (.iconst 0, 1) := by decide +kernel
theorem dL_layerOrigin_24 : decode cL_layerOrigin 24 = .ok (.ireturn, 1) := by decide +kernel
