/-! The law's instructions, 0. -/
theorem dl_0 : decode code 0 = .ok (.new 8, 3) := by decide +kernel
theorem dl_3 : decode code 3 = .ok (.dup, 1) := by decide +kernel
theorem dl_4 : decode code 4 = .ok (.invokespecial 41, 3) := by decide +kernel
theorem dl_7 : decode code 7 = .ok (.astore_n 1, 1) := by decide +kernel
theorem dl_8 : decode code 8 = .ok (.new 42, 3) := by decide +kernel
theorem dl_11 : decode code 11 = .ok (.dup, 1) := by decide +kernel
theorem dl_12 : decode code 12 = .ok (.invokespecial 44, 3) := by decide +kernel
theorem dl_15 : decode code 15 = .ok (.astore_n 2, 1) := by decide +kernel
theorem dl_16 : decode code 16 = .ok (.iconst 1, 1) := by decide +kernel
theorem dl_17 : decode code 17 = .ok (.newarray .long, 2) := by decide +kernel
theorem dl_19 : decode code 19 = .ok (.astore_n 3, 1) := by decide +kernel
theorem dl_20 : decode code 20 = .ok (.iconst 0, 1) := by decide +kernel
theorem dl_21 : decode code 21 = .ok (.istore 4, 2) := by decide +kernel
theorem dl_23 : decode code 23 = .ok (.iload 4, 2) := by decide +kernel
theorem dl_25 : decode code 25 = .ok (.aload_n 0, 1) := by decide +kernel
theorem dl_26 : decode code 26 = .ok (.arraylength, 1) := by decide +kernel
theorem dl_27 : decode code 27 = .ok (.iconst 5, 1) := by decide +kernel
theorem dl_28 : decode code 28 = .ok (.isub, 1) := by decide +kernel
theorem dl_29 : decode code 29 = .ok (.if_icmp .gt 683, 3) := by decide +kernel
theorem dl_32 : decode code 32 = .ok (.aload_n 0, 1) := by decide +kernel
theorem dl_33 : decode code 33 = .ok (.iload 4, 2) := by decide +kernel
theorem dl_35 : decode code 35 = .ok (.iaload, 1) := by decide +kernel
theorem dl_36 : decode code 36 = .ok (.bipush 15, 2) := by decide +kernel
theorem dl_38 : decode code 38 = .ok (.iand, 1) := by decide +kernel
theorem dl_39 : decode code 39 = .ok (.tableswitch 667 0 12 #[65, 157, 170, 226, 270, 326, 394, 474, 530, 555, 580, 605, 630], 65) := by decide +kernel
theorem dl_104 : decode code 104 = .ok (.aload_n 1, 1) := by decide +kernel
theorem dl_105 : decode code 105 = .ok (.aload_n 0, 1) := by decide +kernel
theorem dl_106 : decode code 106 = .ok (.iload 4, 2) := by decide +kernel
theorem dl_108 : decode code 108 = .ok (.iconst 1, 1) := by decide +kernel
theorem dl_109 : decode code 109 = .ok (.iadd, 1) := by decide +kernel
theorem dl_110 : decode code 110 = .ok (.iaload, 1) := by decide +kernel
theorem dl_111 : decode code 111 = .ok (.aload_n 0, 1) := by decide +kernel
theorem dl_112 : decode code 112 = .ok (.iload 4, 2) := by decide +kernel
theorem dl_114 : decode code 114 = .ok (.iconst 2, 1) := by decide +kernel
theorem dl_115 : decode code 115 = .ok (.iadd, 1) := by decide +kernel
theorem dl_116 : decode code 116 = .ok (.iaload, 1) := by decide +kernel
theorem dl_117 : decode code 117 = .ok (.aload_n 0, 1) := by decide +kernel
theorem dl_118 : decode code 118 = .ok (.iload 4, 2) := by decide +kernel
theorem dl_120 : decode code 120 = .ok (.iconst 3, 1) := by decide +kernel
theorem dl_121 : decode code 121 = .ok (.iadd, 1) := by decide +kernel
theorem dl_122 : decode code 122 = .ok (.iaload, 1) := by decide +kernel
theorem dl_123 : decode code 123 = .ok (.aload_n 0, 1) := by decide +kernel
theorem dl_124 : decode code 124 = .ok (.iload 4, 2) := by decide +kernel
theorem dl_126 : decode code 126 = .ok (.iconst 4, 1) := by decide +kernel
theorem dl_127 : decode code 127 = .ok (.iadd, 1) := by decide +kernel
theorem dl_128 : decode code 128 = .ok (.iaload, 1) := by decide +kernel
theorem dl_129 : decode code 129 = .ok (.aload_n 3, 1) := by decide +kernel
theorem dl_130 : decode code 130 = .ok (.invokestatic 45, 3) := by decide +kernel
theorem dl_133 : decode code 133 = .ok (.istore 5, 2) := by decide +kernel
theorem dl_135 : decode code 135 = .ok (.aload_n 2, 1) := by decide +kernel
theorem dl_136 : decode code 136 = .ok (.aload_n 0, 1) := by decide +kernel
theorem dl_137 : decode code 137 = .ok (.iload 4, 2) := by decide +kernel
theorem dl_139 : decode code 139 = .ok (.iconst 1, 1) := by decide +kernel
theorem dl_140 : decode code 140 = .ok (.iadd, 1) := by decide +kernel
theorem dl_141 : decode code 141 = .ok (.iaload, 1) := by decide +kernel
theorem dl_142 : decode code 142 = .ok (.aload_n 0, 1) := by decide +kernel
theorem dl_143 : decode code 143 = .ok (.iload 4, 2) := by decide +kernel
theorem dl_145 : decode code 145 = .ok (.iconst 2, 1) := by decide +kernel
theorem dl_146 : decode code 146 = .ok (.iadd, 1) := by decide +kernel
theorem dl_147 : decode code 147 = .ok (.iaload, 1) := by decide +kernel
theorem dl_148 : decode code 148 = .ok (.aload_n 0, 1) := by decide +kernel
theorem dl_149 : decode code 149 = .ok (.iload 4, 2) := by decide +kernel
theorem dl_151 : decode code 151 = .ok (.iconst 3, 1) := by decide +kernel
theorem dl_152 : decode code 152 = .ok (.iadd, 1) := by decide +kernel
theorem dl_153 : decode code 153 = .ok (.iaload, 1) := by decide +kernel
theorem dl_154 : decode code 154 = .ok (.aload_n 0, 1) := by decide +kernel
theorem dl_155 : decode code 155 = .ok (.iload 4, 2) := by decide +kernel
theorem dl_157 : decode code 157 = .ok (.iconst 4, 1) := by decide +kernel
theorem dl_158 : decode code 158 = .ok (.iadd, 1) := by decide +kernel
theorem dl_159 : decode code 159 = .ok (.iaload, 1) := by decide +kernel
theorem dl_160 : decode code 160 = .ok (.invokevirtual 50, 3) := by decide +kernel
theorem dl_163 : decode code 163 = .ok (.istore 6, 2) := by decide +kernel
theorem dl_165 : decode code 165 = .ok (.aload_n 2, 1) := by decide +kernel
theorem dl_166 : decode code 166 = .ok (.invokevirtual 51, 3) := by decide +kernel
theorem dl_169 : decode code 169 = .ok (.iload 5, 2) := by decide +kernel
theorem dl_171 : decode code 171 = .ok (.if_icmp .eq 5, 3) := by decide +kernel
theorem dl_174 : decode code 174 = .ok (.iconst 0, 1) := by decide +kernel
theorem dl_175 : decode code 175 = .ok (.ireturn, 1) := by decide +kernel
theorem dl_176 : decode code 176 = .ok (.iload 5, 2) := by decide +kernel
theorem dl_178 : decode code 178 = .ok (.ifCond .ne 15, 3) := by decide +kernel
theorem dl_181 : decode code 181 = .ok (.aload_n 3, 1) := by decide +kernel
theorem dl_182 : decode code 182 = .ok (.iconst 0, 1) := by decide +kernel
theorem dl_183 : decode code 183 = .ok (.laload, 1) := by decide +kernel
theorem dl_184 : decode code 184 = .ok (.iload 6, 2) := by decide +kernel
theorem dl_186 : decode code 186 = .ok (.i2l, 1) := by decide +kernel
theorem dl_187 : decode code 187 = .ok (.lcmp, 1) := by decide +kernel
theorem dl_188 : decode code 188 = .ok (.ifCond .eq 5, 3) := by decide +kernel
theorem dl_191 : decode code 191 = .ok (.iconst 0, 1) := by decide +kernel
theorem dl_192 : decode code 192 = .ok (.ireturn, 1) := by decide +kernel
theorem dl_193 : decode code 193 = .ok (.goto 513, 3) := by decide +kernel
theorem dl_196 : decode code 196 = .ok (.aload_n 1, 1) := by decide +kernel
theorem dl_197 : decode code 197 = .ok (.invokevirtual 54, 3) := by decide +kernel
theorem dl_200 : decode code 200 = .ok (.aload_n 2, 1) := by decide +kernel
theorem dl_201 : decode code 201 = .ok (.invokevirtual 57, 3) := by decide +kernel
theorem dl_204 : decode code 204 = .ok (.if_icmp .eq 502, 3) := by decide +kernel
theorem dl_207 : decode code 207 = .ok (.iconst 0, 1) := by decide +kernel
theorem dl_208 : decode code 208 = .ok (.ireturn, 1) := by decide +kernel
theorem dl_209 : decode code 209 = .ok (.aload_n 1, 1) := by decide +kernel
theorem dl_210 : decode code 210 = .ok (.aload_n 0, 1) := by decide +kernel
theorem dl_211 : decode code 211 = .ok (.iload 4, 2) := by decide +kernel
theorem dl_213 : decode code 213 = .ok (.iconst 1, 1) := by decide +kernel
theorem dl_214 : decode code 214 = .ok (.iadd, 1) := by decide +kernel
theorem dl_215 : decode code 215 = .ok (.iaload, 1) := by decide +kernel
theorem dl_216 : decode code 216 = .ok (.aload_n 3, 1) := by decide +kernel
theorem dl_217 : decode code 217 = .ok (.invokestatic 58, 3) := by decide +kernel
theorem dl_220 : decode code 220 = .ok (.istore 5, 2) := by decide +kernel
theorem dl_222 : decode code 222 = .ok (.aload_n 2, 1) := by decide +kernel
theorem dl_223 : decode code 223 = .ok (.aload_n 0, 1) := by decide +kernel
theorem dl_224 : decode code 224 = .ok (.iload 4, 2) := by decide +kernel
theorem dl_226 : decode code 226 = .ok (.iconst 1, 1) := by decide +kernel
theorem dl_227 : decode code 227 = .ok (.iadd, 1) := by decide +kernel
theorem dl_228 : decode code 228 = .ok (.iaload, 1) := by decide +kernel
theorem dl_229 : decode code 229 = .ok (.invokevirtual 61, 3) := by decide +kernel
theorem dl_232 : decode code 232 = .ok (.istore 6, 2) := by decide +kernel
theorem dl_234 : decode code 234 = .ok (.aload_n 2, 1) := by decide +kernel
theorem dl_235 : decode code 235 = .ok (.invokevirtual 51, 3) := by decide +kernel
theorem dl_238 : decode code 238 = .ok (.iload 5, 2) := by decide +kernel
theorem dl_240 : decode code 240 = .ok (.if_icmp .eq 5, 3) := by decide +kernel
theorem dl_243 : decode code 243 = .ok (.iconst 0, 1) := by decide +kernel
theorem dl_244 : decode code 244 = .ok (.ireturn, 1) := by decide +kernel
theorem dl_245 : decode code 245 = .ok (.iload 5, 2) := by decide +kernel
theorem dl_247 : decode code 247 = .ok (.ifCond .ne 15, 3) := by decide +kernel
theorem dl_250 : decode code 250 = .ok (.aload_n 3, 1) := by decide +kernel
theorem dl_251 : decode code 251 = .ok (.iconst 0, 1) := by decide +kernel
theorem dl_252 : decode code 252 = .ok (.laload, 1) := by decide +kernel
theorem dl_253 : decode code 253 = .ok (.iload 6, 2) := by decide +kernel
theorem dl_255 : decode code 255 = .ok (.i2l, 1) := by decide +kernel
theorem dl_256 : decode code 256 = .ok (.lcmp, 1) := by decide +kernel
theorem dl_257 : decode code 257 = .ok (.ifCond .eq 5, 3) := by decide +kernel
theorem dl_260 : decode code 260 = .ok (.iconst 0, 1) := by decide +kernel
theorem dl_261 : decode code 261 = .ok (.ireturn, 1) := by decide +kernel
theorem dl_262 : decode code 262 = .ok (.goto 444, 3) := by decide +kernel
theorem dl_265 : decode code 265 = .ok (.aload_n 1, 1) := by decide +kernel
theorem dl_266 : decode code 266 = .ok (.aload_n 3, 1) := by decide +kernel
theorem dl_267 : decode code 267 = .ok (.invokestatic 62, 3) := by decide +kernel
theorem dl_270 : decode code 270 = .ok (.istore 5, 2) := by decide +kernel
theorem dl_272 : decode code 272 = .ok (.aload_n 2, 1) := by decide +kernel
theorem dl_273 : decode code 273 = .ok (.invokevirtual 65, 3) := by decide +kernel
theorem dl_276 : decode code 276 = .ok (.istore 6, 2) := by decide +kernel
theorem dl_278 : decode code 278 = .ok (.aload_n 2, 1) := by decide +kernel
theorem dl_279 : decode code 279 = .ok (.invokevirtual 51, 3) := by decide +kernel
theorem dl_282 : decode code 282 = .ok (.iload 5, 2) := by decide +kernel
