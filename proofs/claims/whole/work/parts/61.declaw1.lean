/-! Decode rows of the law, by wip/whole/tools/names2.py. -/
theorem dL_law_0 : decode code 0 = .ok (.new 8, 3) := by decide +kernel
theorem dL_law_3 : decode code 3 = .ok (.dup, 1) := by decide +kernel
theorem dL_law_4 : decode code 4 = .ok (.invokespecial 66, 3) := by decide +kernel
theorem dL_law_7 : decode code 7 = .ok (.astore_n 1, 1) := by decide +kernel
theorem dL_law_8 : decode code 8 = .ok (.new 67, 3) := by decide +kernel
theorem dL_law_11 : decode code 11 = .ok (.dup, 1) := by decide +kernel
theorem dL_law_12 : decode code 12 = .ok (.invokespecial 69, 3) := by decide +kernel
theorem dL_law_15 : decode code 15 = .ok (.astore_n 2, 1) := by decide +kernel
theorem dL_law_16 : decode code 16 = .ok (.iconst 1, 1) := by decide +kernel
theorem dL_law_17 : decode code 17 = .ok (.newarray .long, 2) := by decide +kernel
theorem dL_law_19 : decode code 19 = .ok (.astore_n 3, 1) := by decide +kernel
theorem dL_law_20 : decode code 20 = .ok (.iconst 0, 1) := by decide +kernel
theorem dL_law_21 : decode code 21 = .ok (.istore 4, 2) := by decide +kernel
theorem dL_law_23 : decode code 23 = .ok (.iload 4, 2) := by decide +kernel
theorem dL_law_25 : decode code 25 = .ok (.aload_n 0, 1) := by decide +kernel
theorem dL_law_26 : decode code 26 = .ok (.arraylength, 1) := by decide +kernel
theorem dL_law_27 : decode code 27 = .ok (.bipush 8, 2) := by decide +kernel
theorem dL_law_29 : decode code 29 = .ok (.isub, 1) := by decide +kernel
theorem dL_law_30 : decode code 30 = .ok (.if_icmp .gt 1146, 3) := by decide +kernel
theorem dL_law_33 : decode code 33 = .ok (.aload_n 0, 1) := by decide +kernel
theorem dL_law_34 : decode code 34 = .ok (.iload 4, 2) := by decide +kernel
theorem dL_law_36 : decode code 36 = .ok (.iaload, 1) := by decide +kernel
theorem dL_law_37 : decode code 37 = .ok (.bipush 15, 2) := by decide +kernel
theorem dL_law_39 : decode code 39 = .ok (.iand, 1) := by decide +kernel
theorem dL_law_40 : decode code 40 = .ok (.tableswitch 1130 0 14 #[76, 156, 169, 229, 265, 325, 385, 441, 497, 580, 672, 720, 807, 820, 951], 76) := by decide +kernel
theorem dL_law_116 : decode code 116 = .ok (.aload_n 1, 1) := by decide +kernel
theorem dL_law_117 : decode code 117 = .ok (.aload_n 0, 1) := by decide +kernel
theorem dL_law_118 : decode code 118 = .ok (.iload 4, 2) := by decide +kernel
theorem dL_law_120 : decode code 120 = .ok (.iconst 1, 1) := by decide +kernel
theorem dL_law_121 : decode code 121 = .ok (.iadd, 1) := by decide +kernel
theorem dL_law_122 : decode code 122 = .ok (.iaload, 1) := by decide +kernel
theorem dL_law_123 : decode code 123 = .ok (.aload_n 0, 1) := by decide +kernel
theorem dL_law_124 : decode code 124 = .ok (.iload 4, 2) := by decide +kernel
theorem dL_law_126 : decode code 126 = .ok (.iconst 2, 1) := by decide +kernel
theorem dL_law_127 : decode code 127 = .ok (.iadd, 1) := by decide +kernel
theorem dL_law_128 : decode code 128 = .ok (.iaload, 1) := by decide +kernel
theorem dL_law_129 : decode code 129 = .ok (.aload_n 0, 1) := by decide +kernel
theorem dL_law_130 : decode code 130 = .ok (.iload 4, 2) := by decide +kernel
theorem dL_law_132 : decode code 132 = .ok (.iconst 3, 1) := by decide +kernel
theorem dL_law_133 : decode code 133 = .ok (.iadd, 1) := by decide +kernel
theorem dL_law_134 : decode code 134 = .ok (.iaload, 1) := by decide +kernel
theorem dL_law_135 : decode code 135 = .ok (.aload_n 3, 1) := by decide +kernel
theorem dL_law_136 : decode code 136 = .ok (.invokestatic 70, 3) := by decide +kernel
theorem dL_law_139 : decode code 139 = .ok (.istore 5, 2) := by decide +kernel
theorem dL_law_141 : decode code 141 = .ok (.aload_n 2, 1) := by decide +kernel
theorem dL_law_142 : decode code 142 = .ok (.aload_n 0, 1) := by decide +kernel
theorem dL_law_143 : decode code 143 = .ok (.iload 4, 2) := by decide +kernel
theorem dL_law_145 : decode code 145 = .ok (.iconst 1, 1) := by decide +kernel
theorem dL_law_146 : decode code 146 = .ok (.iadd, 1) := by decide +kernel
theorem dL_law_147 : decode code 147 = .ok (.iaload, 1) := by decide +kernel
theorem dL_law_148 : decode code 148 = .ok (.aload_n 0, 1) := by decide +kernel
theorem dL_law_149 : decode code 149 = .ok (.iload 4, 2) := by decide +kernel
theorem dL_law_151 : decode code 151 = .ok (.iconst 2, 1) := by decide +kernel
theorem dL_law_152 : decode code 152 = .ok (.iadd, 1) := by decide +kernel
theorem dL_law_153 : decode code 153 = .ok (.iaload, 1) := by decide +kernel
theorem dL_law_154 : decode code 154 = .ok (.aload_n 0, 1) := by decide +kernel
theorem dL_law_155 : decode code 155 = .ok (.iload 4, 2) := by decide +kernel
theorem dL_law_157 : decode code 157 = .ok (.iconst 3, 1) := by decide +kernel
theorem dL_law_158 : decode code 158 = .ok (.iadd, 1) := by decide +kernel
theorem dL_law_159 : decode code 159 = .ok (.iaload, 1) := by decide +kernel
theorem dL_law_160 : decode code 160 = .ok (.invokevirtual 75, 3) := by decide +kernel
theorem dL_law_163 : decode code 163 = .ok (.istore 6, 2) := by decide +kernel
theorem dL_law_165 : decode code 165 = .ok (.aload_n 2, 1) := by decide +kernel
theorem dL_law_166 : decode code 166 = .ok (.invokevirtual 76, 3) := by decide +kernel
theorem dL_law_169 : decode code 169 = .ok (.iload 5, 2) := by decide +kernel
theorem dL_law_171 : decode code 171 = .ok (.if_icmp .eq 5, 3) := by decide +kernel
theorem dL_law_174 : decode code 174 = .ok (.iconst 0, 1) := by decide +kernel
theorem dL_law_175 : decode code 175 = .ok (.ireturn, 1) := by decide +kernel
theorem dL_law_176 : decode code 176 = .ok (.iload 5, 2) := by decide +kernel
theorem dL_law_178 : decode code 178 = .ok (.ifCond .ne 15, 3) := by decide +kernel
theorem dL_law_181 : decode code 181 = .ok (.aload_n 3, 1) := by decide +kernel
theorem dL_law_182 : decode code 182 = .ok (.iconst 0, 1) := by decide +kernel
theorem dL_law_183 : decode code 183 = .ok (.laload, 1) := by decide +kernel
theorem dL_law_184 : decode code 184 = .ok (.iload 6, 2) := by decide +kernel
theorem dL_law_186 : decode code 186 = .ok (.i2l, 1) := by decide +kernel
theorem dL_law_187 : decode code 187 = .ok (.lcmp, 1) := by decide +kernel
theorem dL_law_188 : decode code 188 = .ok (.ifCond .eq 5, 3) := by decide +kernel
theorem dL_law_191 : decode code 191 = .ok (.iconst 0, 1) := by decide +kernel
theorem dL_law_192 : decode code 192 = .ok (.ireturn, 1) := by decide +kernel
theorem dL_law_193 : decode code 193 = .ok (.goto 977, 3) := by decide +kernel
theorem dL_law_196 : decode code 196 = .ok (.aload_n 1, 1) := by decide +kernel
theorem dL_law_197 : decode code 197 = .ok (.invokevirtual 80, 3) := by decide +kernel
theorem dL_law_200 : decode code 200 = .ok (.aload_n 2, 1) := by decide +kernel
theorem dL_law_201 : decode code 201 = .ok (.invokevirtual 83, 3) := by decide +kernel
theorem dL_law_204 : decode code 204 = .ok (.if_icmp .eq 966, 3) := by decide +kernel
theorem dL_law_207 : decode code 207 = .ok (.iconst 0, 1) := by decide +kernel
theorem dL_law_208 : decode code 208 = .ok (.ireturn, 1) := by decide +kernel
theorem dL_law_209 : decode code 209 = .ok (.aload_n 1, 1) := by decide +kernel
theorem dL_law_210 : decode code 210 = .ok (.aload_n 0, 1) := by decide +kernel
theorem dL_law_211 : decode code 211 = .ok (.iload 4, 2) := by decide +kernel
theorem dL_law_213 : decode code 213 = .ok (.iconst 1, 1) := by decide +kernel
theorem dL_law_214 : decode code 214 = .ok (.iadd, 1) := by decide +kernel
theorem dL_law_215 : decode code 215 = .ok (.iaload, 1) := by decide +kernel
theorem dL_law_216 : decode code 216 = .ok (.aload_n 0, 1) := by decide +kernel
theorem dL_law_217 : decode code 217 = .ok (.iload 4, 2) := by decide +kernel
theorem dL_law_219 : decode code 219 = .ok (.iconst 2, 1) := by decide +kernel
theorem dL_law_220 : decode code 220 = .ok (.iadd, 1) := by decide +kernel
theorem dL_law_221 : decode code 221 = .ok (.iaload, 1) := by decide +kernel
theorem dL_law_222 : decode code 222 = .ok (.aload_n 0, 1) := by decide +kernel
theorem dL_law_223 : decode code 223 = .ok (.iload 4, 2) := by decide +kernel
theorem dL_law_225 : decode code 225 = .ok (.iconst 3, 1) := by decide +kernel
theorem dL_law_226 : decode code 226 = .ok (.iadd, 1) := by decide +kernel
theorem dL_law_227 : decode code 227 = .ok (.iaload, 1) := by decide +kernel
theorem dL_law_228 : decode code 228 = .ok (.invokestatic 84, 3) := by decide +kernel
theorem dL_law_231 : decode code 231 = .ok (.istore 5, 2) := by decide +kernel
theorem dL_law_233 : decode code 233 = .ok (.aload_n 2, 1) := by decide +kernel
theorem dL_law_234 : decode code 234 = .ok (.aload_n 0, 1) := by decide +kernel
theorem dL_law_235 : decode code 235 = .ok (.iload 4, 2) := by decide +kernel
theorem dL_law_237 : decode code 237 = .ok (.iconst 1, 1) := by decide +kernel
theorem dL_law_238 : decode code 238 = .ok (.iadd, 1) := by decide +kernel
theorem dL_law_239 : decode code 239 = .ok (.iaload, 1) := by decide +kernel
theorem dL_law_240 : decode code 240 = .ok (.aload_n 0, 1) := by decide +kernel
theorem dL_law_241 : decode code 241 = .ok (.iload 4, 2) := by decide +kernel
theorem dL_law_243 : decode code 243 = .ok (.iconst 2, 1) := by decide +kernel
theorem dL_law_244 : decode code 244 = .ok (.iadd, 1) := by decide +kernel
theorem dL_law_245 : decode code 245 = .ok (.iaload, 1) := by decide +kernel
theorem dL_law_246 : decode code 246 = .ok (.aload_n 0, 1) := by decide +kernel
theorem dL_law_247 : decode code 247 = .ok (.iload 4, 2) := by decide +kernel
theorem dL_law_249 : decode code 249 = .ok (.iconst 3, 1) := by decide +kernel
theorem dL_law_250 : decode code 250 = .ok (.iadd, 1) := by decide +kernel
theorem dL_law_251 : decode code 251 = .ok (.iaload, 1) := by decide +kernel
theorem dL_law_252 : decode code 252 = .ok (.invokevirtual 87, 3) := by decide +kernel
theorem dL_law_255 : decode code 255 = .ok (.aload_n 2, 1) := by decide +kernel
theorem dL_law_256 : decode code 256 = .ok (.invokevirtual 76, 3) := by decide +kernel
theorem dL_law_259 : decode code 259 = .ok (.iload 5, 2) := by decide +kernel
