theorem d_R_digest_0 : decode prog_8_method_103_code 0 = .ok (.ldc2_w 338, 3) := by decide +kernel
theorem d_R_digest_3 : decode prog_8_method_103_code 3 = .ok (.lstore_n 1, 1) := by decide +kernel
theorem d_R_digest_4 : decode prog_8_method_103_code 4 = .ok (.iconst 0, 1) := by decide +kernel
theorem d_R_digest_5 : decode prog_8_method_103_code 5 = .ok (.istore_n 3, 1) := by decide +kernel
theorem d_R_digest_6 : decode prog_8_method_103_code 6 = .ok (.iload_n 3, 1) := by decide +kernel
theorem d_R_digest_7 : decode prog_8_method_103_code 7 = .ok (.bipush 8, 2) := by decide +kernel
theorem d_R_digest_9 : decode prog_8_method_103_code 9 = .ok (.if_icmp .ge (22), 3) := by decide +kernel
theorem d_R_digest_12 : decode prog_8_method_103_code 12 = .ok (.ldc2_w 332, 3) := by decide +kernel
theorem d_R_digest_15 : decode prog_8_method_103_code 15 = .ok (.lload_n 1, 1) := by decide +kernel
theorem d_R_digest_16 : decode prog_8_method_103_code 16 = .ok (.lmul, 1) := by decide +kernel
theorem d_R_digest_17 : decode prog_8_method_103_code 17 = .ok (.aload_n 0, 1) := by decide +kernel
theorem d_R_digest_18 : decode prog_8_method_103_code 18 = .ok (.iload_n 3, 1) := by decide +kernel
theorem d_R_digest_19 : decode prog_8_method_103_code 19 = .ok (.invokevirtual 340, 3) := by decide +kernel
theorem d_R_digest_22 : decode prog_8_method_103_code 22 = .ok (.i2l, 1) := by decide +kernel
theorem d_R_digest_23 : decode prog_8_method_103_code 23 = .ok (.ladd, 1) := by decide +kernel
theorem d_R_digest_24 : decode prog_8_method_103_code 24 = .ok (.lstore_n 1, 1) := by decide +kernel
theorem d_R_digest_25 : decode prog_8_method_103_code 25 = .ok (.iinc 3 1, 3) := by decide +kernel
theorem d_R_digest_28 : decode prog_8_method_103_code 28 = .ok (.goto (-22), 3) := by decide +kernel
theorem d_R_digest_31 : decode prog_8_method_103_code 31 = .ok (.iconst 0, 1) := by decide +kernel
theorem d_R_digest_32 : decode prog_8_method_103_code 32 = .ok (.istore_n 3, 1) := by decide +kernel
theorem d_R_digest_33 : decode prog_8_method_103_code 33 = .ok (.iload_n 3, 1) := by decide +kernel
theorem d_R_digest_34 : decode prog_8_method_103_code 34 = .ok (.iconst 4, 1) := by decide +kernel
theorem d_R_digest_35 : decode prog_8_method_103_code 35 = .ok (.if_icmp .ge (22), 3) := by decide +kernel
theorem d_R_digest_38 : decode prog_8_method_103_code 38 = .ok (.ldc2_w 332, 3) := by decide +kernel
theorem d_R_digest_41 : decode prog_8_method_103_code 41 = .ok (.lload_n 1, 1) := by decide +kernel
theorem d_R_digest_42 : decode prog_8_method_103_code 42 = .ok (.lmul, 1) := by decide +kernel
theorem d_R_digest_43 : decode prog_8_method_103_code 43 = .ok (.aload_n 0, 1) := by decide +kernel
theorem d_R_digest_44 : decode prog_8_method_103_code 44 = .ok (.iload_n 3, 1) := by decide +kernel
theorem d_R_digest_45 : decode prog_8_method_103_code 45 = .ok (.invokevirtual 168, 3) := by decide +kernel
theorem d_R_digest_48 : decode prog_8_method_103_code 48 = .ok (.i2l, 1) := by decide +kernel
theorem d_R_digest_49 : decode prog_8_method_103_code 49 = .ok (.ladd, 1) := by decide +kernel
theorem d_R_digest_50 : decode prog_8_method_103_code 50 = .ok (.lstore_n 1, 1) := by decide +kernel
theorem d_R_digest_51 : decode prog_8_method_103_code 51 = .ok (.iinc 3 1, 3) := by decide +kernel
theorem d_R_digest_54 : decode prog_8_method_103_code 54 = .ok (.goto (-21), 3) := by decide +kernel
theorem d_R_digest_57 : decode prog_8_method_103_code 57 = .ok (.aload_n 0, 1) := by decide +kernel
theorem d_R_digest_58 : decode prog_8_method_103_code 58 = .ok (.invokevirtual 225, 3) := by decide +kernel
theorem d_R_digest_61 : decode prog_8_method_103_code 61 = .ok (.iconst 0, 1) := by decide +kernel
theorem d_R_digest_62 : decode prog_8_method_103_code 62 = .ok (.istore_n 3, 1) := by decide +kernel
theorem d_R_digest_63 : decode prog_8_method_103_code 63 = .ok (.iload_n 3, 1) := by decide +kernel
theorem d_R_digest_64 : decode prog_8_method_103_code 64 = .ok (.bipush 24, 2) := by decide +kernel
theorem d_R_digest_66 : decode prog_8_method_103_code 66 = .ok (.if_icmp .ge (51), 3) := by decide +kernel
theorem d_R_digest_69 : decode prog_8_method_103_code 69 = .ok (.ldc2_w 332, 3) := by decide +kernel
theorem d_R_digest_72 : decode prog_8_method_103_code 72 = .ok (.lload_n 1, 1) := by decide +kernel
theorem d_R_digest_73 : decode prog_8_method_103_code 73 = .ok (.lmul, 1) := by decide +kernel
theorem d_R_digest_74 : decode prog_8_method_103_code 74 = .ok (.aload_n 0, 1) := by decide +kernel
theorem d_R_digest_75 : decode prog_8_method_103_code 75 = .ok (.getfield 31, 3) := by decide +kernel
theorem d_R_digest_78 : decode prog_8_method_103_code 78 = .ok (.iload_n 3, 1) := by decide +kernel
theorem d_R_digest_79 : decode prog_8_method_103_code 79 = .ok (.iaload, 1) := by decide +kernel
theorem d_R_digest_80 : decode prog_8_method_103_code 80 = .ok (.i2l, 1) := by decide +kernel
theorem d_R_digest_81 : decode prog_8_method_103_code 81 = .ok (.ladd, 1) := by decide +kernel
theorem d_R_digest_82 : decode prog_8_method_103_code 82 = .ok (.lstore_n 1, 1) := by decide +kernel
theorem d_R_digest_83 : decode prog_8_method_103_code 83 = .ok (.ldc2_w 332, 3) := by decide +kernel
theorem d_R_digest_86 : decode prog_8_method_103_code 86 = .ok (.lload_n 1, 1) := by decide +kernel
theorem d_R_digest_87 : decode prog_8_method_103_code 87 = .ok (.lmul, 1) := by decide +kernel
theorem d_R_digest_88 : decode prog_8_method_103_code 88 = .ok (.aload_n 0, 1) := by decide +kernel
theorem d_R_digest_89 : decode prog_8_method_103_code 89 = .ok (.iload_n 3, 1) := by decide +kernel
theorem d_R_digest_90 : decode prog_8_method_103_code 90 = .ok (.iconst 0, 1) := by decide +kernel
theorem d_R_digest_91 : decode prog_8_method_103_code 91 = .ok (.invokevirtual 237, 3) := by decide +kernel
theorem d_R_digest_94 : decode prog_8_method_103_code 94 = .ok (.i2l, 1) := by decide +kernel
theorem d_R_digest_95 : decode prog_8_method_103_code 95 = .ok (.ladd, 1) := by decide +kernel
theorem d_R_digest_96 : decode prog_8_method_103_code 96 = .ok (.lstore_n 1, 1) := by decide +kernel
theorem d_R_digest_97 : decode prog_8_method_103_code 97 = .ok (.ldc2_w 332, 3) := by decide +kernel
theorem d_R_digest_100 : decode prog_8_method_103_code 100 = .ok (.lload_n 1, 1) := by decide +kernel
theorem d_R_digest_101 : decode prog_8_method_103_code 101 = .ok (.lmul, 1) := by decide +kernel
theorem d_R_digest_102 : decode prog_8_method_103_code 102 = .ok (.aload_n 0, 1) := by decide +kernel
theorem d_R_digest_103 : decode prog_8_method_103_code 103 = .ok (.iload_n 3, 1) := by decide +kernel
theorem d_R_digest_104 : decode prog_8_method_103_code 104 = .ok (.iconst 1, 1) := by decide +kernel
theorem d_R_digest_105 : decode prog_8_method_103_code 105 = .ok (.invokevirtual 237, 3) := by decide +kernel
theorem d_R_digest_108 : decode prog_8_method_103_code 108 = .ok (.i2l, 1) := by decide +kernel
theorem d_R_digest_109 : decode prog_8_method_103_code 109 = .ok (.ladd, 1) := by decide +kernel
theorem d_R_digest_110 : decode prog_8_method_103_code 110 = .ok (.lstore_n 1, 1) := by decide +kernel
theorem d_R_digest_111 : decode prog_8_method_103_code 111 = .ok (.iinc 3 1, 3) := by decide +kernel
theorem d_R_digest_114 : decode prog_8_method_103_code 114 = .ok (.goto (-51), 3) := by decide +kernel
theorem d_R_digest_117 : decode prog_8_method_103_code 117 = .ok (.iconst 0, 1) := by decide +kernel
theorem d_R_digest_118 : decode prog_8_method_103_code 118 = .ok (.istore_n 3, 1) := by decide +kernel
theorem d_R_digest_119 : decode prog_8_method_103_code 119 = .ok (.iload_n 3, 1) := by decide +kernel
theorem d_R_digest_120 : decode prog_8_method_103_code 120 = .ok (.bipush 12, 2) := by decide +kernel
theorem d_R_digest_122 : decode prog_8_method_103_code 122 = .ok (.if_icmp .ge (75), 3) := by decide +kernel
theorem d_R_digest_125 : decode prog_8_method_103_code 125 = .ok (.aload_n 0, 1) := by decide +kernel
theorem d_R_digest_126 : decode prog_8_method_103_code 126 = .ok (.invokevirtual 225, 3) := by decide +kernel
theorem d_R_digest_129 : decode prog_8_method_103_code 129 = .ok (.ldc2_w 332, 3) := by decide +kernel
theorem d_R_digest_132 : decode prog_8_method_103_code 132 = .ok (.lload_n 1, 1) := by decide +kernel
theorem d_R_digest_133 : decode prog_8_method_103_code 133 = .ok (.lmul, 1) := by decide +kernel
theorem d_R_digest_134 : decode prog_8_method_103_code 134 = .ok (.aload_n 0, 1) := by decide +kernel
theorem d_R_digest_135 : decode prog_8_method_103_code 135 = .ok (.getfield 28, 3) := by decide +kernel
theorem d_R_digest_138 : decode prog_8_method_103_code 138 = .ok (.iload_n 3, 1) := by decide +kernel
theorem d_R_digest_139 : decode prog_8_method_103_code 139 = .ok (.iaload, 1) := by decide +kernel
theorem d_R_digest_140 : decode prog_8_method_103_code 140 = .ok (.i2l, 1) := by decide +kernel
theorem d_R_digest_141 : decode prog_8_method_103_code 141 = .ok (.ladd, 1) := by decide +kernel
theorem d_R_digest_142 : decode prog_8_method_103_code 142 = .ok (.lstore_n 1, 1) := by decide +kernel
theorem d_R_digest_143 : decode prog_8_method_103_code 143 = .ok (.ldc2_w 332, 3) := by decide +kernel
theorem d_R_digest_146 : decode prog_8_method_103_code 146 = .ok (.lload_n 1, 1) := by decide +kernel
theorem d_R_digest_147 : decode prog_8_method_103_code 147 = .ok (.lmul, 1) := by decide +kernel
theorem d_R_digest_148 : decode prog_8_method_103_code 148 = .ok (.aload_n 0, 1) := by decide +kernel
theorem d_R_digest_149 : decode prog_8_method_103_code 149 = .ok (.getfield 70, 3) := by decide +kernel
theorem d_R_digest_152 : decode prog_8_method_103_code 152 = .ok (.bipush 72, 2) := by decide +kernel
theorem d_R_digest_154 : decode prog_8_method_103_code 154 = .ok (.iload_n 3, 1) := by decide +kernel
theorem d_R_digest_155 : decode prog_8_method_103_code 155 = .ok (.iadd, 1) := by decide +kernel
theorem d_R_digest_156 : decode prog_8_method_103_code 156 = .ok (.iaload, 1) := by decide +kernel
theorem d_R_digest_157 : decode prog_8_method_103_code 157 = .ok (.i2l, 1) := by decide +kernel
theorem d_R_digest_158 : decode prog_8_method_103_code 158 = .ok (.ladd, 1) := by decide +kernel
theorem d_R_digest_159 : decode prog_8_method_103_code 159 = .ok (.lstore_n 1, 1) := by decide +kernel
theorem d_R_digest_160 : decode prog_8_method_103_code 160 = .ok (.ldc2_w 332, 3) := by decide +kernel
theorem d_R_digest_163 : decode prog_8_method_103_code 163 = .ok (.lload_n 1, 1) := by decide +kernel
theorem d_R_digest_164 : decode prog_8_method_103_code 164 = .ok (.lmul, 1) := by decide +kernel
theorem d_R_digest_165 : decode prog_8_method_103_code 165 = .ok (.aload_n 0, 1) := by decide +kernel
theorem d_R_digest_166 : decode prog_8_method_103_code 166 = .ok (.getfield 70, 3) := by decide +kernel
theorem d_R_digest_169 : decode prog_8_method_103_code 169 = .ok (.sipush 240, 3) := by decide +kernel
theorem d_R_digest_172 : decode prog_8_method_103_code 172 = .ok (.iload_n 3, 1) := by decide +kernel
theorem d_R_digest_173 : decode prog_8_method_103_code 173 = .ok (.iadd, 1) := by decide +kernel
theorem d_R_digest_174 : decode prog_8_method_103_code 174 = .ok (.iaload, 1) := by decide +kernel
theorem d_R_digest_175 : decode prog_8_method_103_code 175 = .ok (.i2l, 1) := by decide +kernel
theorem d_R_digest_176 : decode prog_8_method_103_code 176 = .ok (.ladd, 1) := by decide +kernel
theorem d_R_digest_177 : decode prog_8_method_103_code 177 = .ok (.lstore_n 1, 1) := by decide +kernel
theorem d_R_digest_178 : decode prog_8_method_103_code 178 = .ok (.ldc2_w 332, 3) := by decide +kernel
theorem d_R_digest_181 : decode prog_8_method_103_code 181 = .ok (.lload_n 1, 1) := by decide +kernel
theorem d_R_digest_182 : decode prog_8_method_103_code 182 = .ok (.lmul, 1) := by decide +kernel
theorem d_R_digest_183 : decode prog_8_method_103_code 183 = .ok (.aload_n 0, 1) := by decide +kernel
theorem d_R_digest_184 : decode prog_8_method_103_code 184 = .ok (.iload_n 3, 1) := by decide +kernel
theorem d_R_digest_185 : decode prog_8_method_103_code 185 = .ok (.invokevirtual 294, 3) := by decide +kernel
theorem d_R_digest_188 : decode prog_8_method_103_code 188 = .ok (.i2l, 1) := by decide +kernel
theorem d_R_digest_189 : decode prog_8_method_103_code 189 = .ok (.ladd, 1) := by decide +kernel
theorem d_R_digest_190 : decode prog_8_method_103_code 190 = .ok (.lstore_n 1, 1) := by decide +kernel
theorem d_R_digest_191 : decode prog_8_method_103_code 191 = .ok (.iinc 3 1, 3) := by decide +kernel
theorem d_R_digest_194 : decode prog_8_method_103_code 194 = .ok (.goto (-75), 3) := by decide +kernel
theorem d_R_digest_197 : decode prog_8_method_103_code 197 = .ok (.iconst 0, 1) := by decide +kernel
theorem d_R_digest_198 : decode prog_8_method_103_code 198 = .ok (.istore_n 3, 1) := by decide +kernel
theorem d_R_digest_199 : decode prog_8_method_103_code 199 = .ok (.iload_n 3, 1) := by decide +kernel
theorem d_R_digest_200 : decode prog_8_method_103_code 200 = .ok (.aload_n 0, 1) := by decide +kernel
theorem d_R_digest_201 : decode prog_8_method_103_code 201 = .ok (.getfield 146, 3) := by decide +kernel
theorem d_R_digest_204 : decode prog_8_method_103_code 204 = .ok (.if_icmp .ge (16), 3) := by decide +kernel
theorem d_R_digest_207 : decode prog_8_method_103_code 207 = .ok (.aload_n 0, 1) := by decide +kernel
theorem d_R_digest_208 : decode prog_8_method_103_code 208 = .ok (.lload_n 1, 1) := by decide +kernel
theorem d_R_digest_209 : decode prog_8_method_103_code 209 = .ok (.iload_n 3, 1) := by decide +kernel
theorem d_R_digest_210 : decode prog_8_method_103_code 210 = .ok (.invokevirtual 343, 3) := by decide +kernel
theorem d_R_digest_213 : decode prog_8_method_103_code 213 = .ok (.lstore_n 1, 1) := by decide +kernel
theorem d_R_digest_214 : decode prog_8_method_103_code 214 = .ok (.iinc 3 1, 3) := by decide +kernel
theorem d_R_digest_217 : decode prog_8_method_103_code 217 = .ok (.goto (-18), 3) := by decide +kernel
theorem d_R_digest_220 : decode prog_8_method_103_code 220 = .ok (.iconst 0, 1) := by decide +kernel
theorem d_R_digest_221 : decode prog_8_method_103_code 221 = .ok (.istore_n 3, 1) := by decide +kernel
theorem d_R_digest_222 : decode prog_8_method_103_code 222 = .ok (.iload_n 3, 1) := by decide +kernel
theorem d_R_digest_223 : decode prog_8_method_103_code 223 = .ok (.aload_n 0, 1) := by decide +kernel
theorem d_R_digest_224 : decode prog_8_method_103_code 224 = .ok (.getfield 152, 3) := by decide +kernel
theorem d_R_digest_227 : decode prog_8_method_103_code 227 = .ok (.if_icmp .ge (16), 3) := by decide +kernel
theorem d_R_digest_230 : decode prog_8_method_103_code 230 = .ok (.aload_n 0, 1) := by decide +kernel
theorem d_R_digest_231 : decode prog_8_method_103_code 231 = .ok (.lload_n 1, 1) := by decide +kernel
theorem d_R_digest_232 : decode prog_8_method_103_code 232 = .ok (.iload_n 3, 1) := by decide +kernel
theorem d_R_digest_233 : decode prog_8_method_103_code 233 = .ok (.invokevirtual 347, 3) := by decide +kernel
theorem d_R_digest_236 : decode prog_8_method_103_code 236 = .ok (.lstore_n 1, 1) := by decide +kernel
theorem d_R_digest_237 : decode prog_8_method_103_code 237 = .ok (.iinc 3 1, 3) := by decide +kernel
theorem d_R_digest_240 : decode prog_8_method_103_code 240 = .ok (.goto (-18), 3) := by decide +kernel
theorem d_R_digest_243 : decode prog_8_method_103_code 243 = .ok (.aload_n 0, 1) := by decide +kernel
theorem d_R_digest_244 : decode prog_8_method_103_code 244 = .ok (.invokevirtual 225, 3) := by decide +kernel
theorem d_R_digest_247 : decode prog_8_method_103_code 247 = .ok (.iconst 0, 1) := by decide +kernel
theorem d_R_digest_248 : decode prog_8_method_103_code 248 = .ok (.istore_n 3, 1) := by decide +kernel
theorem d_R_digest_249 : decode prog_8_method_103_code 249 = .ok (.iload_n 3, 1) := by decide +kernel
theorem d_R_digest_250 : decode prog_8_method_103_code 250 = .ok (.iconst 3, 1) := by decide +kernel
theorem d_R_digest_251 : decode prog_8_method_103_code 251 = .ok (.if_icmp .ge (22), 3) := by decide +kernel
theorem d_R_digest_254 : decode prog_8_method_103_code 254 = .ok (.ldc2_w 332, 3) := by decide +kernel
theorem d_R_digest_257 : decode prog_8_method_103_code 257 = .ok (.lload_n 1, 1) := by decide +kernel
theorem d_R_digest_258 : decode prog_8_method_103_code 258 = .ok (.lmul, 1) := by decide +kernel
theorem d_R_digest_259 : decode prog_8_method_103_code 259 = .ok (.aload_n 0, 1) := by decide +kernel
theorem d_R_digest_260 : decode prog_8_method_103_code 260 = .ok (.iload_n 3, 1) := by decide +kernel
theorem d_R_digest_261 : decode prog_8_method_103_code 261 = .ok (.invokevirtual 246, 3) := by decide +kernel
theorem d_R_digest_264 : decode prog_8_method_103_code 264 = .ok (.i2l, 1) := by decide +kernel
theorem d_R_digest_265 : decode prog_8_method_103_code 265 = .ok (.ladd, 1) := by decide +kernel
theorem d_R_digest_266 : decode prog_8_method_103_code 266 = .ok (.lstore_n 1, 1) := by decide +kernel
theorem d_R_digest_267 : decode prog_8_method_103_code 267 = .ok (.iinc 3 1, 3) := by decide +kernel
theorem d_R_digest_270 : decode prog_8_method_103_code 270 = .ok (.goto (-21), 3) := by decide +kernel
theorem d_R_digest_273 : decode prog_8_method_103_code 273 = .ok (.ldc2_w 332, 3) := by decide +kernel
theorem d_R_digest_276 : decode prog_8_method_103_code 276 = .ok (.lload_n 1, 1) := by decide +kernel
theorem d_R_digest_277 : decode prog_8_method_103_code 277 = .ok (.lmul, 1) := by decide +kernel
theorem d_R_digest_278 : decode prog_8_method_103_code 278 = .ok (.aload_n 0, 1) := by decide +kernel
theorem d_R_digest_279 : decode prog_8_method_103_code 279 = .ok (.invokevirtual 249, 3) := by decide +kernel
theorem d_R_digest_282 : decode prog_8_method_103_code 282 = .ok (.i2l, 1) := by decide +kernel
theorem d_R_digest_283 : decode prog_8_method_103_code 283 = .ok (.ladd, 1) := by decide +kernel
theorem d_R_digest_284 : decode prog_8_method_103_code 284 = .ok (.lstore_n 1, 1) := by decide +kernel
theorem d_R_digest_285 : decode prog_8_method_103_code 285 = .ok (.ldc2_w 332, 3) := by decide +kernel
theorem d_R_digest_288 : decode prog_8_method_103_code 288 = .ok (.lload_n 1, 1) := by decide +kernel
theorem d_R_digest_289 : decode prog_8_method_103_code 289 = .ok (.lmul, 1) := by decide +kernel
theorem d_R_digest_290 : decode prog_8_method_103_code 290 = .ok (.aload_n 0, 1) := by decide +kernel
theorem d_R_digest_291 : decode prog_8_method_103_code 291 = .ok (.invokevirtual 255, 3) := by decide +kernel
theorem d_R_digest_294 : decode prog_8_method_103_code 294 = .ok (.i2l, 1) := by decide +kernel
theorem d_R_digest_295 : decode prog_8_method_103_code 295 = .ok (.ladd, 1) := by decide +kernel
theorem d_R_digest_296 : decode prog_8_method_103_code 296 = .ok (.lstore_n 1, 1) := by decide +kernel
theorem d_R_digest_297 : decode prog_8_method_103_code 297 = .ok (.ldc2_w 332, 3) := by decide +kernel
theorem d_R_digest_300 : decode prog_8_method_103_code 300 = .ok (.lload_n 1, 1) := by decide +kernel
theorem d_R_digest_301 : decode prog_8_method_103_code 301 = .ok (.lmul, 1) := by decide +kernel
theorem d_R_digest_302 : decode prog_8_method_103_code 302 = .ok (.aload_n 0, 1) := by decide +kernel
theorem d_R_digest_303 : decode prog_8_method_103_code 303 = .ok (.iconst 0, 1) := by decide +kernel
theorem d_R_digest_304 : decode prog_8_method_103_code 304 = .ok (.invokevirtual 265, 3) := by decide +kernel
theorem d_R_digest_307 : decode prog_8_method_103_code 307 = .ok (.i2l, 1) := by decide +kernel
theorem d_R_digest_308 : decode prog_8_method_103_code 308 = .ok (.ladd, 1) := by decide +kernel
theorem d_R_digest_309 : decode prog_8_method_103_code 309 = .ok (.lstore_n 1, 1) := by decide +kernel
theorem d_R_digest_310 : decode prog_8_method_103_code 310 = .ok (.ldc2_w 332, 3) := by decide +kernel
theorem d_R_digest_313 : decode prog_8_method_103_code 313 = .ok (.lload_n 1, 1) := by decide +kernel
theorem d_R_digest_314 : decode prog_8_method_103_code 314 = .ok (.lmul, 1) := by decide +kernel
theorem d_R_digest_315 : decode prog_8_method_103_code 315 = .ok (.aload_n 0, 1) := by decide +kernel
theorem d_R_digest_316 : decode prog_8_method_103_code 316 = .ok (.iconst 1, 1) := by decide +kernel
theorem d_R_digest_317 : decode prog_8_method_103_code 317 = .ok (.invokevirtual 265, 3) := by decide +kernel
theorem d_R_digest_320 : decode prog_8_method_103_code 320 = .ok (.i2l, 1) := by decide +kernel
theorem d_R_digest_321 : decode prog_8_method_103_code 321 = .ok (.ladd, 1) := by decide +kernel
theorem d_R_digest_322 : decode prog_8_method_103_code 322 = .ok (.lstore_n 1, 1) := by decide +kernel
theorem d_R_digest_323 : decode prog_8_method_103_code 323 = .ok (.ldc2_w 332, 3) := by decide +kernel
theorem d_R_digest_326 : decode prog_8_method_103_code 326 = .ok (.lload_n 1, 1) := by decide +kernel
theorem d_R_digest_327 : decode prog_8_method_103_code 327 = .ok (.lmul, 1) := by decide +kernel
theorem d_R_digest_328 : decode prog_8_method_103_code 328 = .ok (.aload_n 0, 1) := by decide +kernel
theorem d_R_digest_329 : decode prog_8_method_103_code 329 = .ok (.iconst (-1), 1) := by decide +kernel
theorem d_R_digest_330 : decode prog_8_method_103_code 330 = .ok (.invokevirtual 276, 3) := by decide +kernel
theorem d_R_digest_333 : decode prog_8_method_103_code 333 = .ok (.i2l, 1) := by decide +kernel
theorem d_R_digest_334 : decode prog_8_method_103_code 334 = .ok (.ladd, 1) := by decide +kernel
theorem d_R_digest_335 : decode prog_8_method_103_code 335 = .ok (.lstore_n 1, 1) := by decide +kernel
theorem d_R_digest_336 : decode prog_8_method_103_code 336 = .ok (.ldc2_w 332, 3) := by decide +kernel
theorem d_R_digest_339 : decode prog_8_method_103_code 339 = .ok (.lload_n 1, 1) := by decide +kernel
theorem d_R_digest_340 : decode prog_8_method_103_code 340 = .ok (.lmul, 1) := by decide +kernel
theorem d_R_digest_341 : decode prog_8_method_103_code 341 = .ok (.aload_n 0, 1) := by decide +kernel
theorem d_R_digest_342 : decode prog_8_method_103_code 342 = .ok (.iconst 0, 1) := by decide +kernel
theorem d_R_digest_343 : decode prog_8_method_103_code 343 = .ok (.invokevirtual 276, 3) := by decide +kernel
theorem d_R_digest_346 : decode prog_8_method_103_code 346 = .ok (.i2l, 1) := by decide +kernel
theorem d_R_digest_347 : decode prog_8_method_103_code 347 = .ok (.ladd, 1) := by decide +kernel
theorem d_R_digest_348 : decode prog_8_method_103_code 348 = .ok (.lstore_n 1, 1) := by decide +kernel
theorem d_R_digest_349 : decode prog_8_method_103_code 349 = .ok (.ldc2_w 332, 3) := by decide +kernel
theorem d_R_digest_352 : decode prog_8_method_103_code 352 = .ok (.lload_n 1, 1) := by decide +kernel
theorem d_R_digest_353 : decode prog_8_method_103_code 353 = .ok (.lmul, 1) := by decide +kernel
theorem d_R_digest_354 : decode prog_8_method_103_code 354 = .ok (.aload_n 0, 1) := by decide +kernel
theorem d_R_digest_355 : decode prog_8_method_103_code 355 = .ok (.invokevirtual 288, 3) := by decide +kernel
theorem d_R_digest_358 : decode prog_8_method_103_code 358 = .ok (.i2l, 1) := by decide +kernel
theorem d_R_digest_359 : decode prog_8_method_103_code 359 = .ok (.ladd, 1) := by decide +kernel
theorem d_R_digest_360 : decode prog_8_method_103_code 360 = .ok (.lstore_n 1, 1) := by decide +kernel
theorem d_R_digest_361 : decode prog_8_method_103_code 361 = .ok (.ldc2_w 332, 3) := by decide +kernel
theorem d_R_digest_364 : decode prog_8_method_103_code 364 = .ok (.lload_n 1, 1) := by decide +kernel
theorem d_R_digest_365 : decode prog_8_method_103_code 365 = .ok (.lmul, 1) := by decide +kernel
theorem d_R_digest_366 : decode prog_8_method_103_code 366 = .ok (.aload_n 0, 1) := by decide +kernel
theorem d_R_digest_367 : decode prog_8_method_103_code 367 = .ok (.bipush 7, 2) := by decide +kernel
theorem d_R_digest_369 : decode prog_8_method_103_code 369 = .ok (.bipush 15, 2) := by decide +kernel
theorem d_R_digest_371 : decode prog_8_method_103_code 371 = .ok (.iconst 0, 1) := by decide +kernel
theorem d_R_digest_372 : decode prog_8_method_103_code 372 = .ok (.invokevirtual 329, 3) := by decide +kernel
theorem d_R_digest_375 : decode prog_8_method_103_code 375 = .ok (.i2l, 1) := by decide +kernel
theorem d_R_digest_376 : decode prog_8_method_103_code 376 = .ok (.ladd, 1) := by decide +kernel
theorem d_R_digest_377 : decode prog_8_method_103_code 377 = .ok (.lstore_n 1, 1) := by decide +kernel
theorem d_R_digest_378 : decode prog_8_method_103_code 378 = .ok (.ldc2_w 332, 3) := by decide +kernel
theorem d_R_digest_381 : decode prog_8_method_103_code 381 = .ok (.lload_n 1, 1) := by decide +kernel
theorem d_R_digest_382 : decode prog_8_method_103_code 382 = .ok (.lmul, 1) := by decide +kernel
theorem d_R_digest_383 : decode prog_8_method_103_code 383 = .ok (.aload_n 0, 1) := by decide +kernel
theorem d_R_digest_384 : decode prog_8_method_103_code 384 = .ok (.bipush 7, 2) := by decide +kernel
theorem d_R_digest_386 : decode prog_8_method_103_code 386 = .ok (.bipush 15, 2) := by decide +kernel
theorem d_R_digest_388 : decode prog_8_method_103_code 388 = .ok (.iconst 1, 1) := by decide +kernel
theorem d_R_digest_389 : decode prog_8_method_103_code 389 = .ok (.invokevirtual 329, 3) := by decide +kernel
theorem d_R_digest_392 : decode prog_8_method_103_code 392 = .ok (.i2l, 1) := by decide +kernel
theorem d_R_digest_393 : decode prog_8_method_103_code 393 = .ok (.ladd, 1) := by decide +kernel
theorem d_R_digest_394 : decode prog_8_method_103_code 394 = .ok (.lreturn, 1) := by decide +kernel
def wp_R_digest (M : Mem) (post : Int64 → Mem → Prop) : Prop :=
  (it3 (fun rec1 (l3 : Int64) (i4 : Int32) (M5 : Mem) => (((8 ≤ i4) → (it3 (fun rec7 (l9 : Int64) (i10 : Int32) (M11 : Mem) => (((4 ≤ i10) → wp_R_lives M11 (fun M13 => (it2 (fun rec15 (l17 : Int64) (i18 : Int32) => (((24 ≤ i18) → (it3 (fun rec20 (l22 : Int64) (i23 : Int32) (M24 : Mem) => (((12 ≤ i23) → (it3 (fun rec26 (l28 : Int64) (i29 : Int32) (M30 : Mem) => ((((M30 0 9) ≤ i29) → (it3 (fun rec32 (l34 : Int64) (i35 : Int32) (M36 : Mem) => ((((M36 0 11) ≤ i35) → wp_R_lives M36 (fun M38 => (it2 (fun rec40 (l42 : Int64) (i43 : Int32) => (((3 ≤ i43) → wp_R_shutNow M38 (fun r45 => ∀ x46 : Int64, x46 = (((31) * l42) + (Int32.toInt64 r45)) → wp_R_bestNow M38 (fun r47 => ∀ x48 : Int64, x48 = (((31) * x46) + (Int32.toInt64 r47)) → wp_R_hedgeBy 0 M38 (fun r50 M49 => ∀ x51 : Int64, x51 = (((31) * x48) + (Int32.toInt64 r50)) → wp_R_hedgeBy 1 M49 (fun r53 M52 => ∀ x54 : Int64, x54 = (((31) * x51) + (Int32.toInt64 r53)) → wp_R_spareBy (-1) M52 (fun r56 M55 => ∀ x57 : Int64, x57 = (((31) * x54) + (Int32.toInt64 r56)) → wp_R_spareBy 0 M55 (fun r59 M58 => ∀ x60 : Int64, x60 = (((31) * x57) + (Int32.toInt64 r59)) → wp_R_neverNow M58 (fun r62 M61 => ∀ x63 : Int64, x63 = (((31) * x60) + (Int32.toInt64 r62)) → wp_R_wintersOf 7 15 0 M61 (fun r65 M64 => ∀ x66 : Int64, x66 = (((31) * x63) + (Int32.toInt64 r65)) → wp_R_wintersOf 7 15 1 M64 (fun r68 M67 => post (((31) * x66) + (Int32.toInt64 r68)) M67)))))))))) ∧ (¬ (3 ≤ i43) → wp_R_deepestBy i43 M38 (fun r69 => ∀ x70 : Int64, x70 = (((31) * l42) + (Int32.toInt64 r69)) → rec40 x70 (i43 + 1))))) 4096 l34 0))) ∧ (¬ ((M36 0 11) ≤ i35) → wp_R_tellsBus l34 i35 M36 (fun r72 M71 => rec32 r72 (i35 + 1) M71)))) 4096 l28 0 M30)) ∧ (¬ ((M30 0 9) ≤ i29) → wp_R_tellsPlough l28 i29 M30 (fun r74 M73 => rec26 r74 (i29 + 1) M73)))) 4096 l22 0 M24)) ∧ (¬ (12 ≤ i23) → wp_R_lives M24 (fun M75 => vp_in i23 12 ∧ ∀ x78 : Int64, x78 = (((31) * l22) + (Int32.toInt64 (M75 7 (tn i23)))) → vp_in (72 + i23) 288 ∧ ∀ x80 : Int64, x80 = (((31) * x78) + (Int32.toInt64 (M75 21 (tn (72 + i23))))) → vp_in (240 + i23) 288 ∧ ∀ x82 : Int64, x82 = (((31) * x80) + (Int32.toInt64 (M75 21 (tn (240 + i23))))) → wp_R_lieOf i23 M75 (fun r84 M83 => ∀ x85 : Int64, x85 = (((31) * x82) + (Int32.toInt64 r84)) → rec20 x85 (i23 + 1) M83))))) 4096 l17 0 M13)) ∧ (¬ (24 ≤ i18) → vp_in i18 24 ∧ ∀ x87 : Int64, x87 = (((31) * l17) + (Int32.toInt64 (M13 8 (tn i18)))) → wp_R_snowBy i18 0 M13 (fun r88 => ∀ x89 : Int64, x89 = (((31) * x87) + (Int32.toInt64 r88)) → wp_R_snowBy i18 1 M13 (fun r90 => ∀ x91 : Int64, x91 = (((31) * x89) + (Int32.toInt64 r90)) → rec15 x91 (i18 + 1)))))) 4096 l9 0))) ∧ (¬ (4 ≤ i10) → wp_R_readsText i10 M11 (fun r93 M92 => ∀ x94 : Int64, x94 = (((31) * l9) + (Int32.toInt64 r93)) → rec7 x94 (i10 + 1) M92)))) 4096 l3 0 M5)) ∧ (¬ (8 ≤ i4) → wp_R_count i4 M5 (fun r96 M95 => ∀ x97 : Int64, x97 = (((31) * l3) + (Int32.toInt64 r96)) → rec1 x97 (i4 + 1) M95)))) 4096 (17) 0 M)
set_option maxHeartbeats 4000000 in
set_option maxRecDepth 100000 in
theorem c_R_digest (g : GX) {M : Mem} {post : Int64 → Mem → Prop} (hw : wp_R_digest M post) : CtL (oR g) y_R_digest prog_8_method_103_code 4 (some .long) (rl 9) [.ref (ax g 0)] M post := by
  refine z_metL (oR_ok g) (by decide) rfl (fun X C hr => ?_)
  show Zj X 4 (oR g) M 0 [(0, .ref (ax g 0))] []
  unfold wp_R_digest at hw
  refine z_ldc2 C d_R_digest_0 tw_1172 ?_
  refine z_lstore_n (lv' := [(1, .long (17)), (0, .ref (ax g 0))]) C d_R_digest_3 rfl rfl rfl ?_
  refine z_iconst (v := 0) C d_R_digest_4 (by decide) ?_
  refine z_istore_n (lv' := [(3, .int 0), (1, .long (17)), (0, .ref (ax g 0))]) C d_R_digest_5 rfl rfl rfl ?_
  refine z_sub [2, 1, 0] rfl ?_
  refine it3_Z (Z := fun (l3 : Int64) (i4 : Int32) (M5 : Mem) => Zj X 4 (oR g) M5 6 [(0, .ref (ax g 0)), (1, .long l3), (3, .int i4)] []) (fun rec1 ih2 l3 i4 M5 hw => ?_) _ _ _ _ hw
  refine z_iload_n C d_R_digest_6 rfl 2 rfl ?_
  refine z_bipush (v := 8) C d_R_digest_7 (by decide) ?_
  refine z_ic_ge C 31 d_R_digest_9 (by decide) (fun h6 => ?_) (fun h6 => ?_)
  · replace hw := hw.1 h6
    refine z_iconst (v := 0) C d_R_digest_31 (by decide) ?_
    refine z_istore_n (lv' := [(3, .int 0), (0, .ref (ax g 0)), (1, .long l3)]) C d_R_digest_32 rfl rfl rfl ?_
    refine z_sub [1, 2, 0] rfl ?_
    refine it3_Z (Z := fun (l9 : Int64) (i10 : Int32) (M11 : Mem) => Zj X 4 (oR g) M11 33 [(0, .ref (ax g 0)), (1, .long l9), (3, .int i10)] []) (fun rec7 ih8 l9 i10 M11 hw => ?_) _ _ _ _ hw
    refine z_iload_n C d_R_digest_33 rfl 2 rfl ?_
    refine z_iconst (v := 4) C d_R_digest_34 (by decide) ?_
    refine z_ic_ge C 57 d_R_digest_35 (by decide) (fun h12 => ?_) (fun h12 => ?_)
    · replace hw := hw.1 h12
      refine z_aload_n C d_R_digest_57 rfl 0 rfl ?_
      refine z_callVv C (As := []) (rest := []) m_R_lives tw_935 0 (le_R) rfl ⟨rfl, rfl⟩ (c_R_lives g hw) rfl rfl rfl d_R_digest_58 (fun M13 hw => ?_)
      refine z_iconst (v := 0) C d_R_digest_61 (by decide) ?_
      refine z_istore_n (lv' := [(3, .int 0), (0, .ref (ax g 0)), (1, .long l9)]) C d_R_digest_62 rfl rfl rfl ?_
      refine z_sub [1, 2, 0] rfl ?_
      refine it2_Z (Z := fun (l17 : Int64) (i18 : Int32) => Zj X 4 (oR g) M13 63 [(0, .ref (ax g 0)), (1, .long l17), (3, .int i18)] []) (fun rec15 ih16 l17 i18 hw => ?_) _ _ _ hw
      refine z_iload_n C d_R_digest_63 rfl 2 rfl ?_
      refine z_bipush (v := 24) C d_R_digest_64 (by decide) ?_
      refine z_ic_ge C 117 d_R_digest_66 (by decide) (fun h19 => ?_) (fun h19 => ?_)
      · replace hw := hw.1 h19
        refine z_iconst (v := 0) C d_R_digest_117 (by decide) ?_
        refine z_istore_n (lv' := [(3, .int 0), (0, .ref (ax g 0)), (1, .long l17)]) C d_R_digest_118 rfl rfl rfl ?_
        refine z_sub [1, 2, 0] rfl ?_
        refine it3_Z (Z := fun (l22 : Int64) (i23 : Int32) (M24 : Mem) => Zj X 4 (oR g) M24 119 [(0, .ref (ax g 0)), (1, .long l22), (3, .int i23)] []) (fun rec20 ih21 l22 i23 M24 hw => ?_) _ _ _ _ hw
        refine z_iload_n C d_R_digest_119 rfl 2 rfl ?_
        refine z_bipush (v := 12) C d_R_digest_120 (by decide) ?_
        refine z_ic_ge C 197 d_R_digest_122 (by decide) (fun h25 => ?_) (fun h25 => ?_)
        · replace hw := hw.1 h25
          refine z_iconst (v := 0) C d_R_digest_197 (by decide) ?_
          refine z_istore_n (lv' := [(3, .int 0), (0, .ref (ax g 0)), (1, .long l22)]) C d_R_digest_198 rfl rfl rfl ?_
          refine z_sub [1, 2, 0] rfl ?_
          refine it3_Z (Z := fun (l28 : Int64) (i29 : Int32) (M30 : Mem) => Zj X 4 (oR g) M30 199 [(0, .ref (ax g 0)), (1, .long l28), (3, .int i29)] []) (fun rec26 ih27 l28 i29 M30 hw => ?_) _ _ _ _ hw
          refine z_iload_n C d_R_digest_199 rfl 2 rfl ?_
          refine z_aload_n C d_R_digest_200 rfl 0 rfl ?_
          refine gf_R_146 C d_R_digest_201 ?_
          refine z_ic_ge C 220 d_R_digest_204 (by decide) (fun h31 => ?_) (fun h31 => ?_)
          · replace hw := hw.1 h31
            refine z_iconst (v := 0) C d_R_digest_220 (by decide) ?_
            refine z_istore_n (lv' := [(3, .int 0), (0, .ref (ax g 0)), (1, .long l28)]) C d_R_digest_221 rfl rfl rfl ?_
            refine z_sub [1, 2, 0] rfl ?_
            refine it3_Z (Z := fun (l34 : Int64) (i35 : Int32) (M36 : Mem) => Zj X 4 (oR g) M36 222 [(0, .ref (ax g 0)), (1, .long l34), (3, .int i35)] []) (fun rec32 ih33 l34 i35 M36 hw => ?_) _ _ _ _ hw
            refine z_iload_n C d_R_digest_222 rfl 2 rfl ?_
            refine z_aload_n C d_R_digest_223 rfl 0 rfl ?_
            refine gf_R_152 C d_R_digest_224 ?_
            refine z_ic_ge C 243 d_R_digest_227 (by decide) (fun h37 => ?_) (fun h37 => ?_)
            · replace hw := hw.1 h37
              refine z_aload_n C d_R_digest_243 rfl 0 rfl ?_
              refine z_callVv C (As := []) (rest := []) m_R_lives tw_935 0 (le_R) rfl ⟨rfl, rfl⟩ (c_R_lives g hw) rfl rfl rfl d_R_digest_244 (fun M38 hw => ?_)
              refine z_iconst (v := 0) C d_R_digest_247 (by decide) ?_
              refine z_istore_n (lv' := [(3, .int 0), (0, .ref (ax g 0)), (1, .long l34)]) C d_R_digest_248 rfl rfl rfl ?_
              refine z_sub [1, 2, 0] rfl ?_
              refine it2_Z (Z := fun (l42 : Int64) (i43 : Int32) => Zj X 4 (oR g) M38 249 [(0, .ref (ax g 0)), (1, .long l42), (3, .int i43)] []) (fun rec40 ih41 l42 i43 hw => ?_) _ _ _ hw
              refine z_iload_n C d_R_digest_249 rfl 2 rfl ?_
              refine z_iconst (v := 3) C d_R_digest_250 (by decide) ?_
              refine z_ic_ge C 273 d_R_digest_251 (by decide) (fun h44 => ?_) (fun h44 => ?_)
              · replace hw := hw.1 h44
                refine z_ldc2 C d_R_digest_273 tw_1173 ?_
                refine z_lload_n C d_R_digest_276 rfl 1 rfl ?_
                refine z_lmul C d_R_digest_277 ?_
                refine z_aload_n C d_R_digest_278 rfl 0 rfl ?_
                refine z_callVi C (As := []) (rest := [.long ((31) * l42)]) m_R_shutNow tw_1020 0 (le_R) rfl ⟨rfl, rfl⟩ (c_R_shutNow g hw) rfl rfl rfl d_R_digest_279 (fun r45 M2 hq => ?_)
                obtain ⟨rfl, hw⟩ := hq
                refine z_i2l C d_R_digest_282 ?_
                refine z_ladd C d_R_digest_283 ?_
                obtain ⟨x46, hx46⟩ : ∃ z : Int64, z = (((31) * l42) + (Int32.toInt64 r45)) := ⟨_, rfl⟩
                rw [← hx46]
                replace hw := hw x46 hx46
                refine z_lstore_n (lv' := [(1, .long x46), (0, .ref (ax g 0)), (3, .int i43)]) C d_R_digest_284 rfl rfl rfl ?_
                refine z_ldc2 C d_R_digest_285 tw_1173 ?_
                refine z_lload_n C d_R_digest_288 rfl 0 rfl ?_
                refine z_lmul C d_R_digest_289 ?_
                refine z_aload_n C d_R_digest_290 rfl 1 rfl ?_
                refine z_callVi C (As := []) (rest := [.long ((31) * x46)]) m_R_bestNow tw_1028 0 (le_R) rfl ⟨rfl, rfl⟩ (c_R_bestNow g hw) rfl rfl rfl d_R_digest_291 (fun r47 M2 hq => ?_)
                obtain ⟨rfl, hw⟩ := hq
                refine z_i2l C d_R_digest_294 ?_
                refine z_ladd C d_R_digest_295 ?_
                obtain ⟨x48, hx48⟩ : ∃ z : Int64, z = (((31) * x46) + (Int32.toInt64 r47)) := ⟨_, rfl⟩
                rw [← hx48]
                replace hw := hw x48 hx48
                refine z_lstore_n (lv' := [(1, .long x48), (0, .ref (ax g 0)), (3, .int i43)]) C d_R_digest_296 rfl rfl rfl ?_
                refine z_ldc2 C d_R_digest_297 tw_1173 ?_
                refine z_lload_n C d_R_digest_300 rfl 0 rfl ?_
                refine z_lmul C d_R_digest_301 ?_
                refine z_aload_n C d_R_digest_302 rfl 1 rfl ?_
                refine z_iconst (v := 0) C d_R_digest_303 (by decide) ?_
                refine z_callVi C (As := [.int 0]) (rest := [.long ((31) * x48)]) m_R_hedgeBy tw_1051 0 (le_R) rfl ⟨rfl, rfl⟩ (c_R_hedgeBy g hw) rfl rfl rfl d_R_digest_304 (fun r50 M49 hw => ?_)
                refine z_i2l C d_R_digest_307 ?_
                refine z_ladd C d_R_digest_308 ?_
                obtain ⟨x51, hx51⟩ : ∃ z : Int64, z = (((31) * x48) + (Int32.toInt64 r50)) := ⟨_, rfl⟩
                rw [← hx51]
                replace hw := hw x51 hx51
                refine z_lstore_n (lv' := [(1, .long x51), (0, .ref (ax g 0)), (3, .int i43)]) C d_R_digest_309 rfl rfl rfl ?_
                refine z_ldc2 C d_R_digest_310 tw_1173 ?_
                refine z_lload_n C d_R_digest_313 rfl 0 rfl ?_
                refine z_lmul C d_R_digest_314 ?_
                refine z_aload_n C d_R_digest_315 rfl 1 rfl ?_
                refine z_iconst (v := 1) C d_R_digest_316 (by decide) ?_
                refine z_callVi C (As := [.int 1]) (rest := [.long ((31) * x51)]) m_R_hedgeBy tw_1051 0 (le_R) rfl ⟨rfl, rfl⟩ (c_R_hedgeBy g hw) rfl rfl rfl d_R_digest_317 (fun r53 M52 hw => ?_)
                refine z_i2l C d_R_digest_320 ?_
                refine z_ladd C d_R_digest_321 ?_
                obtain ⟨x54, hx54⟩ : ∃ z : Int64, z = (((31) * x51) + (Int32.toInt64 r53)) := ⟨_, rfl⟩
                rw [← hx54]
                replace hw := hw x54 hx54
                refine z_lstore_n (lv' := [(1, .long x54), (0, .ref (ax g 0)), (3, .int i43)]) C d_R_digest_322 rfl rfl rfl ?_
                refine z_ldc2 C d_R_digest_323 tw_1173 ?_
                refine z_lload_n C d_R_digest_326 rfl 0 rfl ?_
                refine z_lmul C d_R_digest_327 ?_
                refine z_aload_n C d_R_digest_328 rfl 1 rfl ?_
                refine z_iconst (v := (-1)) C d_R_digest_329 (by decide) ?_
                refine z_callVi C (As := [.int (-1)]) (rest := [.long ((31) * x54)]) m_R_spareBy tw_1069 0 (le_R) rfl ⟨rfl, rfl⟩ (c_R_spareBy g hw) rfl rfl rfl d_R_digest_330 (fun r56 M55 hw => ?_)
                refine z_i2l C d_R_digest_333 ?_
                refine z_ladd C d_R_digest_334 ?_
                obtain ⟨x57, hx57⟩ : ∃ z : Int64, z = (((31) * x54) + (Int32.toInt64 r56)) := ⟨_, rfl⟩
                rw [← hx57]
                replace hw := hw x57 hx57
                refine z_lstore_n (lv' := [(1, .long x57), (0, .ref (ax g 0)), (3, .int i43)]) C d_R_digest_335 rfl rfl rfl ?_
                refine z_ldc2 C d_R_digest_336 tw_1173 ?_
                refine z_lload_n C d_R_digest_339 rfl 0 rfl ?_
                refine z_lmul C d_R_digest_340 ?_
                refine z_aload_n C d_R_digest_341 rfl 1 rfl ?_
                refine z_iconst (v := 0) C d_R_digest_342 (by decide) ?_
                refine z_callVi C (As := [.int 0]) (rest := [.long ((31) * x57)]) m_R_spareBy tw_1069 0 (le_R) rfl ⟨rfl, rfl⟩ (c_R_spareBy g hw) rfl rfl rfl d_R_digest_343 (fun r59 M58 hw => ?_)
                refine z_i2l C d_R_digest_346 ?_
                refine z_ladd C d_R_digest_347 ?_
                obtain ⟨x60, hx60⟩ : ∃ z : Int64, z = (((31) * x57) + (Int32.toInt64 r59)) := ⟨_, rfl⟩
                rw [← hx60]
                replace hw := hw x60 hx60
                refine z_lstore_n (lv' := [(1, .long x60), (0, .ref (ax g 0)), (3, .int i43)]) C d_R_digest_348 rfl rfl rfl ?_
                refine z_ldc2 C d_R_digest_349 tw_1173 ?_
                refine z_lload_n C d_R_digest_352 rfl 0 rfl ?_
                refine z_lmul C d_R_digest_353 ?_
                refine z_aload_n C d_R_digest_354 rfl 1 rfl ?_
                refine z_callVi C (As := []) (rest := [.long ((31) * x60)]) m_R_neverNow tw_1090 0 (le_R) rfl ⟨rfl, rfl⟩ (c_R_neverNow g hw) rfl rfl rfl d_R_digest_355 (fun r62 M61 hw => ?_)
                refine z_i2l C d_R_digest_358 ?_
                refine z_ladd C d_R_digest_359 ?_
                obtain ⟨x63, hx63⟩ : ∃ z : Int64, z = (((31) * x60) + (Int32.toInt64 r62)) := ⟨_, rfl⟩
                rw [← hx63]
                replace hw := hw x63 hx63
                refine z_lstore_n (lv' := [(1, .long x63), (0, .ref (ax g 0)), (3, .int i43)]) C d_R_digest_360 rfl rfl rfl ?_
                refine z_ldc2 C d_R_digest_361 tw_1173 ?_
                refine z_lload_n C d_R_digest_364 rfl 0 rfl ?_
                refine z_lmul C d_R_digest_365 ?_
                refine z_aload_n C d_R_digest_366 rfl 1 rfl ?_
                refine z_bipush (v := 7) C d_R_digest_367 (by decide) ?_
                refine z_bipush (v := 15) C d_R_digest_369 (by decide) ?_
                refine z_iconst (v := 0) C d_R_digest_371 (by decide) ?_
                refine z_callVi C (As := [.int 7, .int 15, .int 0]) (rest := [.long ((31) * x63)]) m_R_wintersOf tw_1151 0 (le_R) rfl ⟨rfl, rfl⟩ (c_R_wintersOf g hw) rfl rfl rfl d_R_digest_372 (fun r65 M64 hw => ?_)
                refine z_i2l C d_R_digest_375 ?_
                refine z_ladd C d_R_digest_376 ?_
                obtain ⟨x66, hx66⟩ : ∃ z : Int64, z = (((31) * x63) + (Int32.toInt64 r65)) := ⟨_, rfl⟩
                rw [← hx66]
                replace hw := hw x66 hx66
                refine z_lstore_n (lv' := [(1, .long x66), (0, .ref (ax g 0)), (3, .int i43)]) C d_R_digest_377 rfl rfl rfl ?_
                refine z_ldc2 C d_R_digest_378 tw_1173 ?_
                refine z_lload_n C d_R_digest_381 rfl 0 rfl ?_
                refine z_lmul C d_R_digest_382 ?_
                refine z_aload_n C d_R_digest_383 rfl 1 rfl ?_
                refine z_bipush (v := 7) C d_R_digest_384 (by decide) ?_
                refine z_bipush (v := 15) C d_R_digest_386 (by decide) ?_
                refine z_iconst (v := 1) C d_R_digest_388 (by decide) ?_
                refine z_callVi C (As := [.int 7, .int 15, .int 1]) (rest := [.long ((31) * x66)]) m_R_wintersOf tw_1151 0 (le_R) rfl ⟨rfl, rfl⟩ (c_R_wintersOf g hw) rfl rfl rfl d_R_digest_389 (fun r68 M67 hw => ?_)
                refine z_i2l C d_R_digest_392 ?_
                refine z_ladd C d_R_digest_393 ?_
                exact z_lret C hr hw d_R_digest_394
              · replace hw := hw.2 h44
                refine z_ldc2 C d_R_digest_254 tw_1173 ?_
                refine z_lload_n C d_R_digest_257 rfl 1 rfl ?_
                refine z_lmul C d_R_digest_258 ?_
                refine z_aload_n C d_R_digest_259 rfl 0 rfl ?_
                refine z_iload_n C d_R_digest_260 rfl 2 rfl ?_
                refine z_callVi C (As := [.int i43]) (rest := [.long ((31) * l42)]) m_R_deepestBy tw_1012 0 (le_R) rfl ⟨rfl, rfl⟩ (c_R_deepestBy g hw) rfl rfl rfl d_R_digest_261 (fun r69 M2 hq => ?_)
                obtain ⟨rfl, hw⟩ := hq
                refine z_i2l C d_R_digest_264 ?_
                refine z_ladd C d_R_digest_265 ?_
                obtain ⟨x70, hx70⟩ : ∃ z : Int64, z = (((31) * l42) + (Int32.toInt64 r69)) := ⟨_, rfl⟩
                rw [← hx70]
                replace hw := hw x70 hx70
                refine z_lstore_n (lv' := [(1, .long x70), (0, .ref (ax g 0)), (3, .int i43)]) C d_R_digest_266 rfl rfl rfl ?_
                refine z_iinc (v := (i43 + 1)) (lv' := [(3, .int (i43 + 1)), (1, .long x70), (0, .ref (ax g 0))]) C d_R_digest_267 2 rfl rfl rfl rfl ?_
                refine z_goto C 249 d_R_digest_270 (by decide) ?_
                refine z_sub [2, 1, 0] rfl ?_
                exact ih41 _ _ hw
            · replace hw := hw.2 h37
              refine z_aload_n C d_R_digest_230 rfl 0 rfl ?_
              refine z_lload_n C d_R_digest_231 rfl 1 rfl ?_
              refine z_iload_n C d_R_digest_232 rfl 2 rfl ?_
              refine z_callVl C (As := [.long l34, .int i35]) (rest := []) m_R_tellsBus tw_1183 0 (le_R) rfl ⟨rfl, rfl⟩ (c_R_tellsBus g hw) rfl rfl rfl d_R_digest_233 (fun r72 M71 hw => ?_)
              refine z_lstore_n (lv' := [(1, .long r72), (0, .ref (ax g 0)), (3, .int i35)]) C d_R_digest_236 rfl rfl rfl ?_
              refine z_iinc (v := (i35 + 1)) (lv' := [(3, .int (i35 + 1)), (1, .long r72), (0, .ref (ax g 0))]) C d_R_digest_237 2 rfl rfl rfl rfl ?_
              refine z_goto C 222 d_R_digest_240 (by decide) ?_
              refine z_sub [2, 1, 0] rfl ?_
              exact ih33 _ _ _ hw
          · replace hw := hw.2 h31
            refine z_aload_n C d_R_digest_207 rfl 0 rfl ?_
            refine z_lload_n C d_R_digest_208 rfl 1 rfl ?_
            refine z_iload_n C d_R_digest_209 rfl 2 rfl ?_
            refine z_callVl C (As := [.long l28, .int i29]) (rest := []) m_R_tellsPlough tw_1175 0 (le_R) rfl ⟨rfl, rfl⟩ (c_R_tellsPlough g hw) rfl rfl rfl d_R_digest_210 (fun r74 M73 hw => ?_)
            refine z_lstore_n (lv' := [(1, .long r74), (0, .ref (ax g 0)), (3, .int i29)]) C d_R_digest_213 rfl rfl rfl ?_
            refine z_iinc (v := (i29 + 1)) (lv' := [(3, .int (i29 + 1)), (1, .long r74), (0, .ref (ax g 0))]) C d_R_digest_214 2 rfl rfl rfl rfl ?_
            refine z_goto C 199 d_R_digest_217 (by decide) ?_
            refine z_sub [2, 1, 0] rfl ?_
            exact ih27 _ _ _ hw
        · replace hw := hw.2 h25
          refine z_aload_n C d_R_digest_125 rfl 0 rfl ?_
          refine z_callVv C (As := []) (rest := []) m_R_lives tw_935 0 (le_R) rfl ⟨rfl, rfl⟩ (c_R_lives g hw) rfl rfl rfl d_R_digest_126 (fun M75 hw => ?_)
          refine z_ldc2 C d_R_digest_129 tw_1173 ?_
          refine z_lload_n C d_R_digest_132 rfl 1 rfl ?_
          refine z_lmul C d_R_digest_133 ?_
          refine z_aload_n C d_R_digest_134 rfl 0 rfl ?_
          refine gf_R_28 C d_R_digest_135 ?_
          refine z_iload_n C d_R_digest_138 rfl 2 rfl ?_
          have hv77 := hw.1
          replace hw := hw.2
          refine z_al (zar_r7) C hv77 d_R_digest_139 ?_
          refine z_i2l C d_R_digest_140 ?_
          refine z_ladd C d_R_digest_141 ?_
          obtain ⟨x78, hx78⟩ : ∃ z : Int64, z = (((31) * l22) + (Int32.toInt64 (M75 7 (tn i23)))) := ⟨_, rfl⟩
          rw [← hx78]
          replace hw := hw x78 hx78
          refine z_lstore_n (lv' := [(1, .long x78), (0, .ref (ax g 0)), (3, .int i23)]) C d_R_digest_142 rfl rfl rfl ?_
          refine z_ldc2 C d_R_digest_143 tw_1173 ?_
          refine z_lload_n C d_R_digest_146 rfl 0 rfl ?_
          refine z_lmul C d_R_digest_147 ?_
          refine z_aload_n C d_R_digest_148 rfl 1 rfl ?_
          refine gf_R_70 C d_R_digest_149 ?_
          refine z_bipush (v := 72) C d_R_digest_152 (by decide) ?_
          refine z_iload_n C d_R_digest_154 rfl 2 rfl ?_
          refine z_iadd C d_R_digest_155 ?_
          have hv79 := hw.1
          replace hw := hw.2
          refine z_al (zar_r21) C hv79 d_R_digest_156 ?_
          refine z_i2l C d_R_digest_157 ?_
          refine z_ladd C d_R_digest_158 ?_
          obtain ⟨x80, hx80⟩ : ∃ z : Int64, z = (((31) * x78) + (Int32.toInt64 (M75 21 (tn (72 + i23))))) := ⟨_, rfl⟩
          rw [← hx80]
          replace hw := hw x80 hx80
          refine z_lstore_n (lv' := [(1, .long x80), (0, .ref (ax g 0)), (3, .int i23)]) C d_R_digest_159 rfl rfl rfl ?_
          refine z_ldc2 C d_R_digest_160 tw_1173 ?_
          refine z_lload_n C d_R_digest_163 rfl 0 rfl ?_
          refine z_lmul C d_R_digest_164 ?_
          refine z_aload_n C d_R_digest_165 rfl 1 rfl ?_
          refine gf_R_70 C d_R_digest_166 ?_
          refine z_sipush (v := 240) C d_R_digest_169 (by decide) ?_
          refine z_iload_n C d_R_digest_172 rfl 2 rfl ?_
          refine z_iadd C d_R_digest_173 ?_
          have hv81 := hw.1
          replace hw := hw.2
          refine z_al (zar_r21) C hv81 d_R_digest_174 ?_
          refine z_i2l C d_R_digest_175 ?_
          refine z_ladd C d_R_digest_176 ?_
          obtain ⟨x82, hx82⟩ : ∃ z : Int64, z = (((31) * x80) + (Int32.toInt64 (M75 21 (tn (240 + i23))))) := ⟨_, rfl⟩
          rw [← hx82]
          replace hw := hw x82 hx82
          refine z_lstore_n (lv' := [(1, .long x82), (0, .ref (ax g 0)), (3, .int i23)]) C d_R_digest_177 rfl rfl rfl ?_
          refine z_ldc2 C d_R_digest_178 tw_1173 ?_
          refine z_lload_n C d_R_digest_181 rfl 0 rfl ?_
          refine z_lmul C d_R_digest_182 ?_
          refine z_aload_n C d_R_digest_183 rfl 1 rfl ?_
          refine z_iload_n C d_R_digest_184 rfl 2 rfl ?_
          refine z_callVi C (As := [.int i23]) (rest := [.long ((31) * x82)]) m_R_lieOf tw_1110 0 (le_R) rfl ⟨rfl, rfl⟩ (c_R_lieOf g hw) rfl rfl rfl d_R_digest_185 (fun r84 M83 hw => ?_)
          refine z_i2l C d_R_digest_188 ?_
          refine z_ladd C d_R_digest_189 ?_
          obtain ⟨x85, hx85⟩ : ∃ z : Int64, z = (((31) * x82) + (Int32.toInt64 r84)) := ⟨_, rfl⟩
          rw [← hx85]
          replace hw := hw x85 hx85
          refine z_lstore_n (lv' := [(1, .long x85), (0, .ref (ax g 0)), (3, .int i23)]) C d_R_digest_190 rfl rfl rfl ?_
          refine z_iinc (v := (i23 + 1)) (lv' := [(3, .int (i23 + 1)), (1, .long x85), (0, .ref (ax g 0))]) C d_R_digest_191 2 rfl rfl rfl rfl ?_
          refine z_goto C 119 d_R_digest_194 (by decide) ?_
          refine z_sub [2, 1, 0] rfl ?_
          exact ih21 _ _ _ hw
      · replace hw := hw.2 h19
        refine z_ldc2 C d_R_digest_69 tw_1173 ?_
        refine z_lload_n C d_R_digest_72 rfl 1 rfl ?_
        refine z_lmul C d_R_digest_73 ?_
        refine z_aload_n C d_R_digest_74 rfl 0 rfl ?_
        refine gf_R_31 C d_R_digest_75 ?_
        refine z_iload_n C d_R_digest_78 rfl 2 rfl ?_
        have hv86 := hw.1
        replace hw := hw.2
        refine z_al (zar_r8) C hv86 d_R_digest_79 ?_
        refine z_i2l C d_R_digest_80 ?_
        refine z_ladd C d_R_digest_81 ?_
        obtain ⟨x87, hx87⟩ : ∃ z : Int64, z = (((31) * l17) + (Int32.toInt64 (M13 8 (tn i18)))) := ⟨_, rfl⟩
        rw [← hx87]
        replace hw := hw x87 hx87
        refine z_lstore_n (lv' := [(1, .long x87), (0, .ref (ax g 0)), (3, .int i18)]) C d_R_digest_82 rfl rfl rfl ?_
        refine z_ldc2 C d_R_digest_83 tw_1173 ?_
        refine z_lload_n C d_R_digest_86 rfl 0 rfl ?_
        refine z_lmul C d_R_digest_87 ?_
        refine z_aload_n C d_R_digest_88 rfl 1 rfl ?_
        refine z_iload_n C d_R_digest_89 rfl 2 rfl ?_
        refine z_iconst (v := 0) C d_R_digest_90 (by decide) ?_
        refine z_callVi C (As := [.int i18, .int 0]) (rest := [.long ((31) * x87)]) m_R_snowBy tw_988 0 (le_R) rfl ⟨rfl, rfl⟩ (c_R_snowBy g hw) rfl rfl rfl d_R_digest_91 (fun r88 M2 hq => ?_)
        obtain ⟨rfl, hw⟩ := hq
        refine z_i2l C d_R_digest_94 ?_
        refine z_ladd C d_R_digest_95 ?_
        obtain ⟨x89, hx89⟩ : ∃ z : Int64, z = (((31) * x87) + (Int32.toInt64 r88)) := ⟨_, rfl⟩
        rw [← hx89]
        replace hw := hw x89 hx89
        refine z_lstore_n (lv' := [(1, .long x89), (0, .ref (ax g 0)), (3, .int i18)]) C d_R_digest_96 rfl rfl rfl ?_
        refine z_ldc2 C d_R_digest_97 tw_1173 ?_
        refine z_lload_n C d_R_digest_100 rfl 0 rfl ?_
        refine z_lmul C d_R_digest_101 ?_
        refine z_aload_n C d_R_digest_102 rfl 1 rfl ?_
        refine z_iload_n C d_R_digest_103 rfl 2 rfl ?_
        refine z_iconst (v := 1) C d_R_digest_104 (by decide) ?_
        refine z_callVi C (As := [.int i18, .int 1]) (rest := [.long ((31) * x89)]) m_R_snowBy tw_988 0 (le_R) rfl ⟨rfl, rfl⟩ (c_R_snowBy g hw) rfl rfl rfl d_R_digest_105 (fun r90 M2 hq => ?_)
        obtain ⟨rfl, hw⟩ := hq
        refine z_i2l C d_R_digest_108 ?_
        refine z_ladd C d_R_digest_109 ?_
        obtain ⟨x91, hx91⟩ : ∃ z : Int64, z = (((31) * x89) + (Int32.toInt64 r90)) := ⟨_, rfl⟩
        rw [← hx91]
        replace hw := hw x91 hx91
        refine z_lstore_n (lv' := [(1, .long x91), (0, .ref (ax g 0)), (3, .int i18)]) C d_R_digest_110 rfl rfl rfl ?_
        refine z_iinc (v := (i18 + 1)) (lv' := [(3, .int (i18 + 1)), (1, .long x91), (0, .ref (ax g 0))]) C d_R_digest_111 2 rfl rfl rfl rfl ?_
        refine z_goto C 63 d_R_digest_114 (by decide) ?_
        refine z_sub [2, 1, 0] rfl ?_
        exact ih16 _ _ hw
    · replace hw := hw.2 h12
      refine z_ldc2 C d_R_digest_38 tw_1173 ?_
      refine z_lload_n C d_R_digest_41 rfl 1 rfl ?_
      refine z_lmul C d_R_digest_42 ?_
      refine z_aload_n C d_R_digest_43 rfl 0 rfl ?_
      refine z_iload_n C d_R_digest_44 rfl 2 rfl ?_
      refine z_callVi C (As := [.int i10]) (rest := [.long ((31) * l9)]) m_R_readsText tw_838 0 (le_R) rfl ⟨rfl, rfl⟩ (c_R_readsText g hw) rfl rfl rfl d_R_digest_45 (fun r93 M92 hw => ?_)
      refine z_i2l C d_R_digest_48 ?_
      refine z_ladd C d_R_digest_49 ?_
      obtain ⟨x94, hx94⟩ : ∃ z : Int64, z = (((31) * l9) + (Int32.toInt64 r93)) := ⟨_, rfl⟩
      rw [← hx94]
      replace hw := hw x94 hx94
      refine z_lstore_n (lv' := [(1, .long x94), (0, .ref (ax g 0)), (3, .int i10)]) C d_R_digest_50 rfl rfl rfl ?_
      refine z_iinc (v := (i10 + 1)) (lv' := [(3, .int (i10 + 1)), (1, .long x94), (0, .ref (ax g 0))]) C d_R_digest_51 2 rfl rfl rfl rfl ?_
      refine z_goto C 33 d_R_digest_54 (by decide) ?_
      refine z_sub [2, 1, 0] rfl ?_
      exact ih8 _ _ _ hw
  · replace hw := hw.2 h6
    refine z_ldc2 C d_R_digest_12 tw_1173 ?_
    refine z_lload_n C d_R_digest_15 rfl 1 rfl ?_
    refine z_lmul C d_R_digest_16 ?_
    refine z_aload_n C d_R_digest_17 rfl 0 rfl ?_
    refine z_iload_n C d_R_digest_18 rfl 2 rfl ?_
    refine z_callVi C (As := [.int i4]) (rest := [.long ((31) * l3)]) m_R_count tw_1174 0 (le_R) rfl ⟨rfl, rfl⟩ (c_R_count g hw) rfl rfl rfl d_R_digest_19 (fun r96 M95 hw => ?_)
    refine z_i2l C d_R_digest_22 ?_
    refine z_ladd C d_R_digest_23 ?_
    obtain ⟨x97, hx97⟩ : ∃ z : Int64, z = (((31) * l3) + (Int32.toInt64 r96)) := ⟨_, rfl⟩
    rw [← hx97]
    replace hw := hw x97 hx97
    refine z_lstore_n (lv' := [(1, .long x97), (0, .ref (ax g 0)), (3, .int i4)]) C d_R_digest_24 rfl rfl rfl ?_
    refine z_iinc (v := (i4 + 1)) (lv' := [(3, .int (i4 + 1)), (1, .long x97), (0, .ref (ax g 0))]) C d_R_digest_25 2 rfl rfl rfl rfl ?_
    refine z_goto C 6 d_R_digest_28 (by decide) ?_
    refine z_sub [2, 1, 0] rfl ?_
    exact ih2 _ _ _ hw
