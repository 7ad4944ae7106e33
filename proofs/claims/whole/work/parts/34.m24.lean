theorem d_X_digest_0 : decode prog_1_method_42_code 0 = .ok (.ldc2_w 271, 3) := by decide +kernel
theorem d_X_digest_3 : decode prog_1_method_42_code 3 = .ok (.lstore_n 1, 1) := by decide +kernel
theorem d_X_digest_4 : decode prog_1_method_42_code 4 = .ok (.iconst 0, 1) := by decide +kernel
theorem d_X_digest_5 : decode prog_1_method_42_code 5 = .ok (.istore_n 3, 1) := by decide +kernel
theorem d_X_digest_6 : decode prog_1_method_42_code 6 = .ok (.iload_n 3, 1) := by decide +kernel
theorem d_X_digest_7 : decode prog_1_method_42_code 7 = .ok (.bipush 7, 2) := by decide +kernel
theorem d_X_digest_9 : decode prog_1_method_42_code 9 = .ok (.if_icmp .gt (20), 3) := by decide +kernel
theorem d_X_digest_12 : decode prog_1_method_42_code 12 = .ok (.lload_n 1, 1) := by decide +kernel
theorem d_X_digest_13 : decode prog_1_method_42_code 13 = .ok (.aload_n 0, 1) := by decide +kernel
theorem d_X_digest_14 : decode prog_1_method_42_code 14 = .ok (.iload_n 3, 1) := by decide +kernel
theorem d_X_digest_15 : decode prog_1_method_42_code 15 = .ok (.invokevirtual 273, 3) := by decide +kernel
theorem d_X_digest_18 : decode prog_1_method_42_code 18 = .ok (.i2l, 1) := by decide +kernel
theorem d_X_digest_19 : decode prog_1_method_42_code 19 = .ok (.invokestatic 276, 3) := by decide +kernel
theorem d_X_digest_22 : decode prog_1_method_42_code 22 = .ok (.lstore_n 1, 1) := by decide +kernel
theorem d_X_digest_23 : decode prog_1_method_42_code 23 = .ok (.iinc 3 1, 3) := by decide +kernel
theorem d_X_digest_26 : decode prog_1_method_42_code 26 = .ok (.goto (-20), 3) := by decide +kernel
theorem d_X_digest_29 : decode prog_1_method_42_code 29 = .ok (.iconst 0, 1) := by decide +kernel
theorem d_X_digest_30 : decode prog_1_method_42_code 30 = .ok (.istore_n 3, 1) := by decide +kernel
theorem d_X_digest_31 : decode prog_1_method_42_code 31 = .ok (.iload_n 3, 1) := by decide +kernel
theorem d_X_digest_32 : decode prog_1_method_42_code 32 = .ok (.iconst 4, 1) := by decide +kernel
theorem d_X_digest_33 : decode prog_1_method_42_code 33 = .ok (.if_icmp .ge (20), 3) := by decide +kernel
theorem d_X_digest_36 : decode prog_1_method_42_code 36 = .ok (.lload_n 1, 1) := by decide +kernel
theorem d_X_digest_37 : decode prog_1_method_42_code 37 = .ok (.aload_n 0, 1) := by decide +kernel
theorem d_X_digest_38 : decode prog_1_method_42_code 38 = .ok (.iload_n 3, 1) := by decide +kernel
theorem d_X_digest_39 : decode prog_1_method_42_code 39 = .ok (.invokevirtual 280, 3) := by decide +kernel
theorem d_X_digest_42 : decode prog_1_method_42_code 42 = .ok (.i2l, 1) := by decide +kernel
theorem d_X_digest_43 : decode prog_1_method_42_code 43 = .ok (.invokestatic 276, 3) := by decide +kernel
theorem d_X_digest_46 : decode prog_1_method_42_code 46 = .ok (.lstore_n 1, 1) := by decide +kernel
theorem d_X_digest_47 : decode prog_1_method_42_code 47 = .ok (.iinc 3 1, 3) := by decide +kernel
theorem d_X_digest_50 : decode prog_1_method_42_code 50 = .ok (.goto (-19), 3) := by decide +kernel
theorem d_X_digest_53 : decode prog_1_method_42_code 53 = .ok (.iconst 0, 1) := by decide +kernel
theorem d_X_digest_54 : decode prog_1_method_42_code 54 = .ok (.istore_n 3, 1) := by decide +kernel
theorem d_X_digest_55 : decode prog_1_method_42_code 55 = .ok (.iload_n 3, 1) := by decide +kernel
theorem d_X_digest_56 : decode prog_1_method_42_code 56 = .ok (.bipush 24, 2) := by decide +kernel
theorem d_X_digest_58 : decode prog_1_method_42_code 58 = .ok (.if_icmp .ge (40), 3) := by decide +kernel
theorem d_X_digest_61 : decode prog_1_method_42_code 61 = .ok (.lload_n 1, 1) := by decide +kernel
theorem d_X_digest_62 : decode prog_1_method_42_code 62 = .ok (.aload_n 0, 1) := by decide +kernel
theorem d_X_digest_63 : decode prog_1_method_42_code 63 = .ok (.iload_n 3, 1) := by decide +kernel
theorem d_X_digest_64 : decode prog_1_method_42_code 64 = .ok (.invokevirtual 283, 3) := by decide +kernel
theorem d_X_digest_67 : decode prog_1_method_42_code 67 = .ok (.i2l, 1) := by decide +kernel
theorem d_X_digest_68 : decode prog_1_method_42_code 68 = .ok (.invokestatic 276, 3) := by decide +kernel
theorem d_X_digest_71 : decode prog_1_method_42_code 71 = .ok (.aload_n 0, 1) := by decide +kernel
theorem d_X_digest_72 : decode prog_1_method_42_code 72 = .ok (.iload_n 3, 1) := by decide +kernel
theorem d_X_digest_73 : decode prog_1_method_42_code 73 = .ok (.iconst 0, 1) := by decide +kernel
theorem d_X_digest_74 : decode prog_1_method_42_code 74 = .ok (.invokevirtual 286, 3) := by decide +kernel
theorem d_X_digest_77 : decode prog_1_method_42_code 77 = .ok (.i2l, 1) := by decide +kernel
theorem d_X_digest_78 : decode prog_1_method_42_code 78 = .ok (.invokestatic 276, 3) := by decide +kernel
theorem d_X_digest_81 : decode prog_1_method_42_code 81 = .ok (.aload_n 0, 1) := by decide +kernel
theorem d_X_digest_82 : decode prog_1_method_42_code 82 = .ok (.iload_n 3, 1) := by decide +kernel
theorem d_X_digest_83 : decode prog_1_method_42_code 83 = .ok (.iconst 1, 1) := by decide +kernel
theorem d_X_digest_84 : decode prog_1_method_42_code 84 = .ok (.invokevirtual 286, 3) := by decide +kernel
theorem d_X_digest_87 : decode prog_1_method_42_code 87 = .ok (.i2l, 1) := by decide +kernel
theorem d_X_digest_88 : decode prog_1_method_42_code 88 = .ok (.invokestatic 276, 3) := by decide +kernel
theorem d_X_digest_91 : decode prog_1_method_42_code 91 = .ok (.lstore_n 1, 1) := by decide +kernel
theorem d_X_digest_92 : decode prog_1_method_42_code 92 = .ok (.iinc 3 1, 3) := by decide +kernel
theorem d_X_digest_95 : decode prog_1_method_42_code 95 = .ok (.goto (-40), 3) := by decide +kernel
theorem d_X_digest_98 : decode prog_1_method_42_code 98 = .ok (.iconst 0, 1) := by decide +kernel
theorem d_X_digest_99 : decode prog_1_method_42_code 99 = .ok (.istore_n 3, 1) := by decide +kernel
theorem d_X_digest_100 : decode prog_1_method_42_code 100 = .ok (.iload_n 3, 1) := by decide +kernel
theorem d_X_digest_101 : decode prog_1_method_42_code 101 = .ok (.bipush 12, 2) := by decide +kernel
theorem d_X_digest_103 : decode prog_1_method_42_code 103 = .ok (.if_icmp .ge (51), 3) := by decide +kernel
theorem d_X_digest_106 : decode prog_1_method_42_code 106 = .ok (.lload_n 1, 1) := by decide +kernel
theorem d_X_digest_107 : decode prog_1_method_42_code 107 = .ok (.aload_n 0, 1) := by decide +kernel
theorem d_X_digest_108 : decode prog_1_method_42_code 108 = .ok (.iload_n 3, 1) := by decide +kernel
theorem d_X_digest_109 : decode prog_1_method_42_code 109 = .ok (.invokevirtual 289, 3) := by decide +kernel
theorem d_X_digest_112 : decode prog_1_method_42_code 112 = .ok (.i2l, 1) := by decide +kernel
theorem d_X_digest_113 : decode prog_1_method_42_code 113 = .ok (.invokestatic 276, 3) := by decide +kernel
theorem d_X_digest_116 : decode prog_1_method_42_code 116 = .ok (.aload_n 0, 1) := by decide +kernel
theorem d_X_digest_117 : decode prog_1_method_42_code 117 = .ok (.bipush 6, 2) := by decide +kernel
theorem d_X_digest_119 : decode prog_1_method_42_code 119 = .ok (.iload_n 3, 1) := by decide +kernel
theorem d_X_digest_120 : decode prog_1_method_42_code 120 = .ok (.invokevirtual 292, 3) := by decide +kernel
theorem d_X_digest_123 : decode prog_1_method_42_code 123 = .ok (.i2l, 1) := by decide +kernel
theorem d_X_digest_124 : decode prog_1_method_42_code 124 = .ok (.invokestatic 276, 3) := by decide +kernel
theorem d_X_digest_127 : decode prog_1_method_42_code 127 = .ok (.aload_n 0, 1) := by decide +kernel
theorem d_X_digest_128 : decode prog_1_method_42_code 128 = .ok (.bipush 20, 2) := by decide +kernel
theorem d_X_digest_130 : decode prog_1_method_42_code 130 = .ok (.iload_n 3, 1) := by decide +kernel
theorem d_X_digest_131 : decode prog_1_method_42_code 131 = .ok (.invokevirtual 292, 3) := by decide +kernel
theorem d_X_digest_134 : decode prog_1_method_42_code 134 = .ok (.i2l, 1) := by decide +kernel
theorem d_X_digest_135 : decode prog_1_method_42_code 135 = .ok (.invokestatic 276, 3) := by decide +kernel
theorem d_X_digest_138 : decode prog_1_method_42_code 138 = .ok (.aload_n 0, 1) := by decide +kernel
theorem d_X_digest_139 : decode prog_1_method_42_code 139 = .ok (.iload_n 3, 1) := by decide +kernel
theorem d_X_digest_140 : decode prog_1_method_42_code 140 = .ok (.invokevirtual 295, 3) := by decide +kernel
theorem d_X_digest_143 : decode prog_1_method_42_code 143 = .ok (.i2l, 1) := by decide +kernel
theorem d_X_digest_144 : decode prog_1_method_42_code 144 = .ok (.invokestatic 276, 3) := by decide +kernel
theorem d_X_digest_147 : decode prog_1_method_42_code 147 = .ok (.lstore_n 1, 1) := by decide +kernel
theorem d_X_digest_148 : decode prog_1_method_42_code 148 = .ok (.iinc 3 1, 3) := by decide +kernel
theorem d_X_digest_151 : decode prog_1_method_42_code 151 = .ok (.goto (-51), 3) := by decide +kernel
theorem d_X_digest_154 : decode prog_1_method_42_code 154 = .ok (.iconst 0, 1) := by decide +kernel
theorem d_X_digest_155 : decode prog_1_method_42_code 155 = .ok (.istore_n 3, 1) := by decide +kernel
theorem d_X_digest_156 : decode prog_1_method_42_code 156 = .ok (.iload_n 3, 1) := by decide +kernel
theorem d_X_digest_157 : decode prog_1_method_42_code 157 = .ok (.aload_n 0, 1) := by decide +kernel
theorem d_X_digest_158 : decode prog_1_method_42_code 158 = .ok (.getfield 18, 3) := by decide +kernel
theorem d_X_digest_161 : decode prog_1_method_42_code 161 = .ok (.getfield 94, 3) := by decide +kernel
theorem d_X_digest_164 : decode prog_1_method_42_code 164 = .ok (.if_icmp .ge (16), 3) := by decide +kernel
theorem d_X_digest_167 : decode prog_1_method_42_code 167 = .ok (.aload_n 0, 1) := by decide +kernel
theorem d_X_digest_168 : decode prog_1_method_42_code 168 = .ok (.lload_n 1, 1) := by decide +kernel
theorem d_X_digest_169 : decode prog_1_method_42_code 169 = .ok (.iload_n 3, 1) := by decide +kernel
theorem d_X_digest_170 : decode prog_1_method_42_code 170 = .ok (.invokevirtual 298, 3) := by decide +kernel
theorem d_X_digest_173 : decode prog_1_method_42_code 173 = .ok (.lstore_n 1, 1) := by decide +kernel
theorem d_X_digest_174 : decode prog_1_method_42_code 174 = .ok (.iinc 3 1, 3) := by decide +kernel
theorem d_X_digest_177 : decode prog_1_method_42_code 177 = .ok (.goto (-21), 3) := by decide +kernel
theorem d_X_digest_180 : decode prog_1_method_42_code 180 = .ok (.iconst 0, 1) := by decide +kernel
theorem d_X_digest_181 : decode prog_1_method_42_code 181 = .ok (.istore_n 3, 1) := by decide +kernel
theorem d_X_digest_182 : decode prog_1_method_42_code 182 = .ok (.iload_n 3, 1) := by decide +kernel
theorem d_X_digest_183 : decode prog_1_method_42_code 183 = .ok (.aload_n 0, 1) := by decide +kernel
theorem d_X_digest_184 : decode prog_1_method_42_code 184 = .ok (.getfield 18, 3) := by decide +kernel
theorem d_X_digest_187 : decode prog_1_method_42_code 187 = .ok (.getfield 106, 3) := by decide +kernel
theorem d_X_digest_190 : decode prog_1_method_42_code 190 = .ok (.if_icmp .ge (16), 3) := by decide +kernel
theorem d_X_digest_193 : decode prog_1_method_42_code 193 = .ok (.aload_n 0, 1) := by decide +kernel
theorem d_X_digest_194 : decode prog_1_method_42_code 194 = .ok (.lload_n 1, 1) := by decide +kernel
theorem d_X_digest_195 : decode prog_1_method_42_code 195 = .ok (.iload_n 3, 1) := by decide +kernel
theorem d_X_digest_196 : decode prog_1_method_42_code 196 = .ok (.invokevirtual 302, 3) := by decide +kernel
theorem d_X_digest_199 : decode prog_1_method_42_code 199 = .ok (.lstore_n 1, 1) := by decide +kernel
theorem d_X_digest_200 : decode prog_1_method_42_code 200 = .ok (.iinc 3 1, 3) := by decide +kernel
theorem d_X_digest_203 : decode prog_1_method_42_code 203 = .ok (.goto (-21), 3) := by decide +kernel
theorem d_X_digest_206 : decode prog_1_method_42_code 206 = .ok (.iconst 0, 1) := by decide +kernel
theorem d_X_digest_207 : decode prog_1_method_42_code 207 = .ok (.istore_n 3, 1) := by decide +kernel
theorem d_X_digest_208 : decode prog_1_method_42_code 208 = .ok (.iload_n 3, 1) := by decide +kernel
theorem d_X_digest_209 : decode prog_1_method_42_code 209 = .ok (.iconst 3, 1) := by decide +kernel
theorem d_X_digest_210 : decode prog_1_method_42_code 210 = .ok (.if_icmp .ge (20), 3) := by decide +kernel
theorem d_X_digest_213 : decode prog_1_method_42_code 213 = .ok (.lload_n 1, 1) := by decide +kernel
theorem d_X_digest_214 : decode prog_1_method_42_code 214 = .ok (.aload_n 0, 1) := by decide +kernel
theorem d_X_digest_215 : decode prog_1_method_42_code 215 = .ok (.iload_n 3, 1) := by decide +kernel
theorem d_X_digest_216 : decode prog_1_method_42_code 216 = .ok (.invokevirtual 305, 3) := by decide +kernel
theorem d_X_digest_219 : decode prog_1_method_42_code 219 = .ok (.i2l, 1) := by decide +kernel
theorem d_X_digest_220 : decode prog_1_method_42_code 220 = .ok (.invokestatic 276, 3) := by decide +kernel
theorem d_X_digest_223 : decode prog_1_method_42_code 223 = .ok (.lstore_n 1, 1) := by decide +kernel
theorem d_X_digest_224 : decode prog_1_method_42_code 224 = .ok (.iinc 3 1, 3) := by decide +kernel
theorem d_X_digest_227 : decode prog_1_method_42_code 227 = .ok (.goto (-19), 3) := by decide +kernel
theorem d_X_digest_230 : decode prog_1_method_42_code 230 = .ok (.lload_n 1, 1) := by decide +kernel
theorem d_X_digest_231 : decode prog_1_method_42_code 231 = .ok (.aload_n 0, 1) := by decide +kernel
theorem d_X_digest_232 : decode prog_1_method_42_code 232 = .ok (.invokevirtual 308, 3) := by decide +kernel
theorem d_X_digest_235 : decode prog_1_method_42_code 235 = .ok (.i2l, 1) := by decide +kernel
theorem d_X_digest_236 : decode prog_1_method_42_code 236 = .ok (.invokestatic 276, 3) := by decide +kernel
theorem d_X_digest_239 : decode prog_1_method_42_code 239 = .ok (.aload_n 0, 1) := by decide +kernel
theorem d_X_digest_240 : decode prog_1_method_42_code 240 = .ok (.invokevirtual 311, 3) := by decide +kernel
theorem d_X_digest_243 : decode prog_1_method_42_code 243 = .ok (.i2l, 1) := by decide +kernel
theorem d_X_digest_244 : decode prog_1_method_42_code 244 = .ok (.invokestatic 276, 3) := by decide +kernel
theorem d_X_digest_247 : decode prog_1_method_42_code 247 = .ok (.lstore_n 1, 1) := by decide +kernel
theorem d_X_digest_248 : decode prog_1_method_42_code 248 = .ok (.lload_n 1, 1) := by decide +kernel
theorem d_X_digest_249 : decode prog_1_method_42_code 249 = .ok (.aload_n 0, 1) := by decide +kernel
theorem d_X_digest_250 : decode prog_1_method_42_code 250 = .ok (.iconst 0, 1) := by decide +kernel
theorem d_X_digest_251 : decode prog_1_method_42_code 251 = .ok (.invokevirtual 314, 3) := by decide +kernel
theorem d_X_digest_254 : decode prog_1_method_42_code 254 = .ok (.i2l, 1) := by decide +kernel
theorem d_X_digest_255 : decode prog_1_method_42_code 255 = .ok (.invokestatic 276, 3) := by decide +kernel
theorem d_X_digest_258 : decode prog_1_method_42_code 258 = .ok (.aload_n 0, 1) := by decide +kernel
theorem d_X_digest_259 : decode prog_1_method_42_code 259 = .ok (.iconst 1, 1) := by decide +kernel
theorem d_X_digest_260 : decode prog_1_method_42_code 260 = .ok (.invokevirtual 314, 3) := by decide +kernel
theorem d_X_digest_263 : decode prog_1_method_42_code 263 = .ok (.i2l, 1) := by decide +kernel
theorem d_X_digest_264 : decode prog_1_method_42_code 264 = .ok (.invokestatic 276, 3) := by decide +kernel
theorem d_X_digest_267 : decode prog_1_method_42_code 267 = .ok (.lstore_n 1, 1) := by decide +kernel
theorem d_X_digest_268 : decode prog_1_method_42_code 268 = .ok (.lload_n 1, 1) := by decide +kernel
theorem d_X_digest_269 : decode prog_1_method_42_code 269 = .ok (.aload_n 0, 1) := by decide +kernel
theorem d_X_digest_270 : decode prog_1_method_42_code 270 = .ok (.iconst (-1), 1) := by decide +kernel
theorem d_X_digest_271 : decode prog_1_method_42_code 271 = .ok (.invokevirtual 317, 3) := by decide +kernel
theorem d_X_digest_274 : decode prog_1_method_42_code 274 = .ok (.i2l, 1) := by decide +kernel
theorem d_X_digest_275 : decode prog_1_method_42_code 275 = .ok (.invokestatic 276, 3) := by decide +kernel
theorem d_X_digest_278 : decode prog_1_method_42_code 278 = .ok (.aload_n 0, 1) := by decide +kernel
theorem d_X_digest_279 : decode prog_1_method_42_code 279 = .ok (.iconst 0, 1) := by decide +kernel
theorem d_X_digest_280 : decode prog_1_method_42_code 280 = .ok (.invokevirtual 317, 3) := by decide +kernel
theorem d_X_digest_283 : decode prog_1_method_42_code 283 = .ok (.i2l, 1) := by decide +kernel
theorem d_X_digest_284 : decode prog_1_method_42_code 284 = .ok (.invokestatic 276, 3) := by decide +kernel
theorem d_X_digest_287 : decode prog_1_method_42_code 287 = .ok (.lstore_n 1, 1) := by decide +kernel
theorem d_X_digest_288 : decode prog_1_method_42_code 288 = .ok (.lload_n 1, 1) := by decide +kernel
theorem d_X_digest_289 : decode prog_1_method_42_code 289 = .ok (.aload_n 0, 1) := by decide +kernel
theorem d_X_digest_290 : decode prog_1_method_42_code 290 = .ok (.invokevirtual 320, 3) := by decide +kernel
theorem d_X_digest_293 : decode prog_1_method_42_code 293 = .ok (.i2l, 1) := by decide +kernel
theorem d_X_digest_294 : decode prog_1_method_42_code 294 = .ok (.invokestatic 276, 3) := by decide +kernel
theorem d_X_digest_297 : decode prog_1_method_42_code 297 = .ok (.lstore_n 1, 1) := by decide +kernel
theorem d_X_digest_298 : decode prog_1_method_42_code 298 = .ok (.lload_n 1, 1) := by decide +kernel
theorem d_X_digest_299 : decode prog_1_method_42_code 299 = .ok (.aload_n 0, 1) := by decide +kernel
theorem d_X_digest_300 : decode prog_1_method_42_code 300 = .ok (.bipush 7, 2) := by decide +kernel
theorem d_X_digest_302 : decode prog_1_method_42_code 302 = .ok (.bipush 15, 2) := by decide +kernel
theorem d_X_digest_304 : decode prog_1_method_42_code 304 = .ok (.iconst 0, 1) := by decide +kernel
theorem d_X_digest_305 : decode prog_1_method_42_code 305 = .ok (.invokevirtual 323, 3) := by decide +kernel
theorem d_X_digest_308 : decode prog_1_method_42_code 308 = .ok (.i2l, 1) := by decide +kernel
theorem d_X_digest_309 : decode prog_1_method_42_code 309 = .ok (.invokestatic 276, 3) := by decide +kernel
theorem d_X_digest_312 : decode prog_1_method_42_code 312 = .ok (.aload_n 0, 1) := by decide +kernel
theorem d_X_digest_313 : decode prog_1_method_42_code 313 = .ok (.bipush 7, 2) := by decide +kernel
theorem d_X_digest_315 : decode prog_1_method_42_code 315 = .ok (.bipush 15, 2) := by decide +kernel
theorem d_X_digest_317 : decode prog_1_method_42_code 317 = .ok (.iconst 1, 1) := by decide +kernel
theorem d_X_digest_318 : decode prog_1_method_42_code 318 = .ok (.invokevirtual 323, 3) := by decide +kernel
theorem d_X_digest_321 : decode prog_1_method_42_code 321 = .ok (.i2l, 1) := by decide +kernel
theorem d_X_digest_322 : decode prog_1_method_42_code 322 = .ok (.invokestatic 276, 3) := by decide +kernel
theorem d_X_digest_325 : decode prog_1_method_42_code 325 = .ok (.lreturn, 1) := by decide +kernel
def wp_X_digest (M : Mem) (post : Int64 → Mem → Prop) : Prop :=
  (it3 (fun rec1 (l3 : Int64) (i4 : Int32) (M5 : Mem) => (((7 < i4) → (it2 (fun rec7 (l9 : Int64) (i10 : Int32) => (((4 ≤ i10) → (it3 (fun rec12 (l14 : Int64) (i15 : Int32) (M16 : Mem) => (((24 ≤ i15) → (it3 (fun rec18 (l20 : Int64) (i21 : Int32) (M22 : Mem) => (((12 ≤ i21) → (it3 (fun rec24 (l26 : Int64) (i27 : Int32) (M28 : Mem) => ((((M28 10 2) ≤ i27) → (it3 (fun rec30 (l32 : Int64) (i33 : Int32) (M34 : Mem) => ((((M34 10 6) ≤ i33) → (it3 (fun rec36 (l38 : Int64) (i39 : Int32) (M40 : Mem) => (((3 ≤ i39) → wp_X_shut M40 (fun r43 M42 => wp_X_best M42 (fun r46 M45 => ∀ x48 : Int64, x48 = (pf_X_mix (pf_X_mix l38 (Int32.toInt64 r43)) (Int32.toInt64 r46)) → wp_X_hedge 0 M45 (fun r50 M49 => wp_X_hedge 1 M49 (fun r53 M52 => ∀ x55 : Int64, x55 = (pf_X_mix (pf_X_mix x48 (Int32.toInt64 r50)) (Int32.toInt64 r53)) → wp_X_spare (-1) M52 (fun r57 M56 => wp_X_spare 0 M56 (fun r60 M59 => ∀ x62 : Int64, x62 = (pf_X_mix (pf_X_mix x55 (Int32.toInt64 r57)) (Int32.toInt64 r60)) → wp_X_never M59 (fun r64 M63 => ∀ x66 : Int64, x66 = (pf_X_mix x62 (Int32.toInt64 r64)) → wp_X_winters 7 15 0 M63 (fun r68 M67 => wp_X_winters 7 15 1 M67 (fun r71 M70 => post (pf_X_mix (pf_X_mix x66 (Int32.toInt64 r68)) (Int32.toInt64 r71)) M70)))))))))) ∧ (¬ (3 ≤ i39) → wp_X_deepest i39 M40 (fun r74 M73 => ∀ x76 : Int64, x76 = (pf_X_mix l38 (Int32.toInt64 r74)) → rec36 x76 (i39 + 1) M73)))) 4096 l32 0 M34)) ∧ (¬ ((M34 10 6) ≤ i33) → wp_X_mixBus l32 i33 M34 (fun r78 M77 => rec30 r78 (i33 + 1) M77)))) 4096 l26 0 M28)) ∧ (¬ ((M28 10 2) ≤ i27) → wp_X_mixPlough l26 i27 M28 (fun r80 M79 => rec24 r80 (i27 + 1) M79)))) 4096 l20 0 M22)) ∧ (¬ (12 ≤ i21) → wp_X_land i21 M22 (fun r81 => wp_X_deep 6 i21 M22 (fun r84 M83 => wp_X_deep 20 i21 M83 (fun r87 M86 => wp_X_lie i21 M86 (fun r90 M89 => ∀ x92 : Int64, x92 = (pf_X_mix (pf_X_mix (pf_X_mix (pf_X_mix l20 (Int32.toInt64 r81)) (Int32.toInt64 r84)) (Int32.toInt64 r87)) (Int32.toInt64 r90)) → rec18 x92 (i21 + 1) M89))))))) 4096 l14 0 M16)) ∧ (¬ (24 ≤ i15) → wp_X_fall i15 M16 (fun r93 => wp_X_snow i15 0 M16 (fun r96 M95 => wp_X_snow i15 1 M95 (fun r99 M98 => ∀ x101 : Int64, x101 = (pf_X_mix (pf_X_mix (pf_X_mix l14 (Int32.toInt64 r93)) (Int32.toInt64 r96)) (Int32.toInt64 r99)) → rec12 x101 (i15 + 1) M98)))))) 4096 l9 0 M5)) ∧ (¬ (4 ≤ i10) → wp_X_fault i10 M5 (fun r102 => ∀ x104 : Int64, x104 = (pf_X_mix l9 (Int32.toInt64 r102)) → rec7 x104 (i10 + 1))))) 4096 l3 0)) ∧ (¬ (7 < i4) → wp_X_count i4 M5 (fun r106 M105 => ∀ x108 : Int64, x108 = (pf_X_mix l3 (Int32.toInt64 r106)) → rec1 x108 (i4 + 1) M105)))) 4096 (17) 0 M)
set_option maxHeartbeats 4000000 in
set_option maxRecDepth 100000 in
theorem c_X_digest (g : GX) {M : Mem} {post : Int64 → Mem → Prop} (hw : wp_X_digest M post) : CtL (oX g) y_X_digest prog_1_method_42_code 4 (some .long) (rl 6) [.ref (ax g 0)] M post := by
  refine z_metL (oX_ok g) (by decide) rfl (fun X C hr => ?_)
  show Zj X 4 (oX g) M 0 [(0, .ref (ax g 0))] []
  unfold wp_X_digest at hw
  refine z_ldc2 C d_X_digest_0 tw_626 ?_
  refine z_lstore_n (lv' := [(1, .long (17)), (0, .ref (ax g 0))]) C d_X_digest_3 rfl rfl rfl ?_
  refine z_iconst (v := 0) C d_X_digest_4 (by decide) ?_
  refine z_istore_n (lv' := [(3, .int 0), (1, .long (17)), (0, .ref (ax g 0))]) C d_X_digest_5 rfl rfl rfl ?_
  refine z_sub [2, 1, 0] rfl ?_
  refine it3_Z (Z := fun (l3 : Int64) (i4 : Int32) (M5 : Mem) => Zj X 4 (oX g) M5 6 [(0, .ref (ax g 0)), (1, .long l3), (3, .int i4)] []) (fun rec1 ih2 l3 i4 M5 hw => ?_) _ _ _ _ hw
  refine z_iload_n C d_X_digest_6 rfl 2 rfl ?_
  refine z_bipush (v := 7) C d_X_digest_7 (by decide) ?_
  refine z_ic_gt C 29 d_X_digest_9 (by decide) (fun h6 => ?_) (fun h6 => ?_)
  · replace hw := hw.1 h6
    refine z_iconst (v := 0) C d_X_digest_29 (by decide) ?_
    refine z_istore_n (lv' := [(3, .int 0), (0, .ref (ax g 0)), (1, .long l3)]) C d_X_digest_30 rfl rfl rfl ?_
    refine z_sub [1, 2, 0] rfl ?_
    refine it2_Z (Z := fun (l9 : Int64) (i10 : Int32) => Zj X 4 (oX g) M5 31 [(0, .ref (ax g 0)), (1, .long l9), (3, .int i10)] []) (fun rec7 ih8 l9 i10 hw => ?_) _ _ _ hw
    refine z_iload_n C d_X_digest_31 rfl 2 rfl ?_
    refine z_iconst (v := 4) C d_X_digest_32 (by decide) ?_
    refine z_ic_ge C 53 d_X_digest_33 (by decide) (fun h11 => ?_) (fun h11 => ?_)
    · replace hw := hw.1 h11
      refine z_iconst (v := 0) C d_X_digest_53 (by decide) ?_
      refine z_istore_n (lv' := [(3, .int 0), (0, .ref (ax g 0)), (1, .long l9)]) C d_X_digest_54 rfl rfl rfl ?_
      refine z_sub [1, 2, 0] rfl ?_
      refine it3_Z (Z := fun (l14 : Int64) (i15 : Int32) (M16 : Mem) => Zj X 4 (oX g) M16 55 [(0, .ref (ax g 0)), (1, .long l14), (3, .int i15)] []) (fun rec12 ih13 l14 i15 M16 hw => ?_) _ _ _ _ hw
      refine z_iload_n C d_X_digest_55 rfl 2 rfl ?_
      refine z_bipush (v := 24) C d_X_digest_56 (by decide) ?_
      refine z_ic_ge C 98 d_X_digest_58 (by decide) (fun h17 => ?_) (fun h17 => ?_)
      · replace hw := hw.1 h17
        refine z_iconst (v := 0) C d_X_digest_98 (by decide) ?_
        refine z_istore_n (lv' := [(3, .int 0), (0, .ref (ax g 0)), (1, .long l14)]) C d_X_digest_99 rfl rfl rfl ?_
        refine z_sub [1, 2, 0] rfl ?_
        refine it3_Z (Z := fun (l20 : Int64) (i21 : Int32) (M22 : Mem) => Zj X 4 (oX g) M22 100 [(0, .ref (ax g 0)), (1, .long l20), (3, .int i21)] []) (fun rec18 ih19 l20 i21 M22 hw => ?_) _ _ _ _ hw
        refine z_iload_n C d_X_digest_100 rfl 2 rfl ?_
        refine z_bipush (v := 12) C d_X_digest_101 (by decide) ?_
        refine z_ic_ge C 154 d_X_digest_103 (by decide) (fun h23 => ?_) (fun h23 => ?_)
        · replace hw := hw.1 h23
          refine z_iconst (v := 0) C d_X_digest_154 (by decide) ?_
          refine z_istore_n (lv' := [(3, .int 0), (0, .ref (ax g 0)), (1, .long l20)]) C d_X_digest_155 rfl rfl rfl ?_
          refine z_sub [1, 2, 0] rfl ?_
          refine it3_Z (Z := fun (l26 : Int64) (i27 : Int32) (M28 : Mem) => Zj X 4 (oX g) M28 156 [(0, .ref (ax g 0)), (1, .long l26), (3, .int i27)] []) (fun rec24 ih25 l26 i27 M28 hw => ?_) _ _ _ _ hw
          refine z_iload_n C d_X_digest_156 rfl 2 rfl ?_
          refine z_aload_n C d_X_digest_157 rfl 0 rfl ?_
          refine gf_X_18 C d_X_digest_158 ?_
          refine gf_X_94 C d_X_digest_161 ?_
          refine z_ic_ge C 180 d_X_digest_164 (by decide) (fun h29 => ?_) (fun h29 => ?_)
          · replace hw := hw.1 h29
            refine z_iconst (v := 0) C d_X_digest_180 (by decide) ?_
            refine z_istore_n (lv' := [(3, .int 0), (0, .ref (ax g 0)), (1, .long l26)]) C d_X_digest_181 rfl rfl rfl ?_
            refine z_sub [1, 2, 0] rfl ?_
            refine it3_Z (Z := fun (l32 : Int64) (i33 : Int32) (M34 : Mem) => Zj X 4 (oX g) M34 182 [(0, .ref (ax g 0)), (1, .long l32), (3, .int i33)] []) (fun rec30 ih31 l32 i33 M34 hw => ?_) _ _ _ _ hw
            refine z_iload_n C d_X_digest_182 rfl 2 rfl ?_
            refine z_aload_n C d_X_digest_183 rfl 0 rfl ?_
            refine gf_X_18 C d_X_digest_184 ?_
            refine gf_X_106 C d_X_digest_187 ?_
            refine z_ic_ge C 206 d_X_digest_190 (by decide) (fun h35 => ?_) (fun h35 => ?_)
            · replace hw := hw.1 h35
              refine z_iconst (v := 0) C d_X_digest_206 (by decide) ?_
              refine z_istore_n (lv' := [(3, .int 0), (0, .ref (ax g 0)), (1, .long l32)]) C d_X_digest_207 rfl rfl rfl ?_
              refine z_sub [1, 2, 0] rfl ?_
              refine it3_Z (Z := fun (l38 : Int64) (i39 : Int32) (M40 : Mem) => Zj X 4 (oX g) M40 208 [(0, .ref (ax g 0)), (1, .long l38), (3, .int i39)] []) (fun rec36 ih37 l38 i39 M40 hw => ?_) _ _ _ _ hw
              refine z_iload_n C d_X_digest_208 rfl 2 rfl ?_
              refine z_iconst (v := 3) C d_X_digest_209 (by decide) ?_
              refine z_ic_ge C 230 d_X_digest_210 (by decide) (fun h41 => ?_) (fun h41 => ?_)
              · replace hw := hw.1 h41
                refine z_lload_n C d_X_digest_230 rfl 1 rfl ?_
                refine z_aload_n C d_X_digest_231 rfl 0 rfl ?_
                refine z_callVi C (As := []) (rest := [.long l38]) m_X_shut tw_660 0 (le_X) rfl ⟨rfl, rfl⟩ (c_X_shut g hw) rfl rfl rfl d_X_digest_232 (fun r43 M42 hw => ?_)
                refine z_i2l C d_X_digest_235 ?_
                refine z_callSl C (As := [.long l38, .long (Int32.toInt64 r43)]) (rest := []) m_X_mix tw_628 ⟨rfl, rfl⟩ (c_X_mix (oX_ok g) _ _ _) rfl rfl rfl d_X_digest_236 (fun r M2 hq => ?_)
                obtain ⟨rfl, rfl⟩ := hq
                refine z_aload_n C d_X_digest_239 rfl 0 rfl ?_
                refine z_callVi C (As := []) (rest := [.long (pf_X_mix l38 (Int32.toInt64 r43))]) m_X_best tw_661 0 (le_X) rfl ⟨rfl, rfl⟩ (c_X_best g hw) rfl rfl rfl d_X_digest_240 (fun r46 M45 hw => ?_)
                refine z_i2l C d_X_digest_243 ?_
                refine z_callSl C (As := [.long (pf_X_mix l38 (Int32.toInt64 r43)), .long (Int32.toInt64 r46)]) (rest := []) m_X_mix tw_628 ⟨rfl, rfl⟩ (c_X_mix (oX_ok g) _ _ _) rfl rfl rfl d_X_digest_244 (fun r M2 hq => ?_)
                obtain ⟨rfl, rfl⟩ := hq
                obtain ⟨x48, hx48⟩ : ∃ z : Int64, z = (pf_X_mix (pf_X_mix l38 (Int32.toInt64 r43)) (Int32.toInt64 r46)) := ⟨_, rfl⟩
                rw [← hx48]
                replace hw := hw x48 hx48
                refine z_lstore_n (lv' := [(1, .long x48), (0, .ref (ax g 0)), (3, .int i39)]) C d_X_digest_247 rfl rfl rfl ?_
                refine z_lload_n C d_X_digest_248 rfl 0 rfl ?_
                refine z_aload_n C d_X_digest_249 rfl 1 rfl ?_
                refine z_iconst (v := 0) C d_X_digest_250 (by decide) ?_
                refine z_callVi C (As := [.int 0]) (rest := [.long x48]) m_X_hedge tw_662 0 (le_X) rfl ⟨rfl, rfl⟩ (c_X_hedge g hw) rfl rfl rfl d_X_digest_251 (fun r50 M49 hw => ?_)
                refine z_i2l C d_X_digest_254 ?_
                refine z_callSl C (As := [.long x48, .long (Int32.toInt64 r50)]) (rest := []) m_X_mix tw_628 ⟨rfl, rfl⟩ (c_X_mix (oX_ok g) _ _ _) rfl rfl rfl d_X_digest_255 (fun r M2 hq => ?_)
                obtain ⟨rfl, rfl⟩ := hq
                refine z_aload_n C d_X_digest_258 rfl 1 rfl ?_
                refine z_iconst (v := 1) C d_X_digest_259 (by decide) ?_
                refine z_callVi C (As := [.int 1]) (rest := [.long (pf_X_mix x48 (Int32.toInt64 r50))]) m_X_hedge tw_662 0 (le_X) rfl ⟨rfl, rfl⟩ (c_X_hedge g hw) rfl rfl rfl d_X_digest_260 (fun r53 M52 hw => ?_)
                refine z_i2l C d_X_digest_263 ?_
                refine z_callSl C (As := [.long (pf_X_mix x48 (Int32.toInt64 r50)), .long (Int32.toInt64 r53)]) (rest := []) m_X_mix tw_628 ⟨rfl, rfl⟩ (c_X_mix (oX_ok g) _ _ _) rfl rfl rfl d_X_digest_264 (fun r M2 hq => ?_)
                obtain ⟨rfl, rfl⟩ := hq
                obtain ⟨x55, hx55⟩ : ∃ z : Int64, z = (pf_X_mix (pf_X_mix x48 (Int32.toInt64 r50)) (Int32.toInt64 r53)) := ⟨_, rfl⟩
                rw [← hx55]
                replace hw := hw x55 hx55
                refine z_lstore_n (lv' := [(1, .long x55), (0, .ref (ax g 0)), (3, .int i39)]) C d_X_digest_267 rfl rfl rfl ?_
                refine z_lload_n C d_X_digest_268 rfl 0 rfl ?_
                refine z_aload_n C d_X_digest_269 rfl 1 rfl ?_
                refine z_iconst (v := (-1)) C d_X_digest_270 (by decide) ?_
                refine z_callVi C (As := [.int (-1)]) (rest := [.long x55]) m_X_spare tw_663 0 (le_X) rfl ⟨rfl, rfl⟩ (c_X_spare g hw) rfl rfl rfl d_X_digest_271 (fun r57 M56 hw => ?_)
                refine z_i2l C d_X_digest_274 ?_
                refine z_callSl C (As := [.long x55, .long (Int32.toInt64 r57)]) (rest := []) m_X_mix tw_628 ⟨rfl, rfl⟩ (c_X_mix (oX_ok g) _ _ _) rfl rfl rfl d_X_digest_275 (fun r M2 hq => ?_)
                obtain ⟨rfl, rfl⟩ := hq
                refine z_aload_n C d_X_digest_278 rfl 1 rfl ?_
                refine z_iconst (v := 0) C d_X_digest_279 (by decide) ?_
                refine z_callVi C (As := [.int 0]) (rest := [.long (pf_X_mix x55 (Int32.toInt64 r57))]) m_X_spare tw_663 0 (le_X) rfl ⟨rfl, rfl⟩ (c_X_spare g hw) rfl rfl rfl d_X_digest_280 (fun r60 M59 hw => ?_)
                refine z_i2l C d_X_digest_283 ?_
                refine z_callSl C (As := [.long (pf_X_mix x55 (Int32.toInt64 r57)), .long (Int32.toInt64 r60)]) (rest := []) m_X_mix tw_628 ⟨rfl, rfl⟩ (c_X_mix (oX_ok g) _ _ _) rfl rfl rfl d_X_digest_284 (fun r M2 hq => ?_)
                obtain ⟨rfl, rfl⟩ := hq
                obtain ⟨x62, hx62⟩ : ∃ z : Int64, z = (pf_X_mix (pf_X_mix x55 (Int32.toInt64 r57)) (Int32.toInt64 r60)) := ⟨_, rfl⟩
                rw [← hx62]
                replace hw := hw x62 hx62
                refine z_lstore_n (lv' := [(1, .long x62), (0, .ref (ax g 0)), (3, .int i39)]) C d_X_digest_287 rfl rfl rfl ?_
                refine z_lload_n C d_X_digest_288 rfl 0 rfl ?_
                refine z_aload_n C d_X_digest_289 rfl 1 rfl ?_
                refine z_callVi C (As := []) (rest := [.long x62]) m_X_never tw_664 0 (le_X) rfl ⟨rfl, rfl⟩ (c_X_never g hw) rfl rfl rfl d_X_digest_290 (fun r64 M63 hw => ?_)
                refine z_i2l C d_X_digest_293 ?_
                refine z_callSl C (As := [.long x62, .long (Int32.toInt64 r64)]) (rest := []) m_X_mix tw_628 ⟨rfl, rfl⟩ (c_X_mix (oX_ok g) _ _ _) rfl rfl rfl d_X_digest_294 (fun r M2 hq => ?_)
                obtain ⟨rfl, rfl⟩ := hq
                obtain ⟨x66, hx66⟩ : ∃ z : Int64, z = (pf_X_mix x62 (Int32.toInt64 r64)) := ⟨_, rfl⟩
                rw [← hx66]
                replace hw := hw x66 hx66
                refine z_lstore_n (lv' := [(1, .long x66), (0, .ref (ax g 0)), (3, .int i39)]) C d_X_digest_297 rfl rfl rfl ?_
                refine z_lload_n C d_X_digest_298 rfl 0 rfl ?_
                refine z_aload_n C d_X_digest_299 rfl 1 rfl ?_
                refine z_bipush (v := 7) C d_X_digest_300 (by decide) ?_
                refine z_bipush (v := 15) C d_X_digest_302 (by decide) ?_
                refine z_iconst (v := 0) C d_X_digest_304 (by decide) ?_
                refine z_callVi C (As := [.int 7, .int 15, .int 0]) (rest := [.long x66]) m_X_winters tw_665 0 (le_X) rfl ⟨rfl, rfl⟩ (c_X_winters g hw) rfl rfl rfl d_X_digest_305 (fun r68 M67 hw => ?_)
                refine z_i2l C d_X_digest_308 ?_
                refine z_callSl C (As := [.long x66, .long (Int32.toInt64 r68)]) (rest := []) m_X_mix tw_628 ⟨rfl, rfl⟩ (c_X_mix (oX_ok g) _ _ _) rfl rfl rfl d_X_digest_309 (fun r M2 hq => ?_)
                obtain ⟨rfl, rfl⟩ := hq
                refine z_aload_n C d_X_digest_312 rfl 1 rfl ?_
                refine z_bipush (v := 7) C d_X_digest_313 (by decide) ?_
                refine z_bipush (v := 15) C d_X_digest_315 (by decide) ?_
                refine z_iconst (v := 1) C d_X_digest_317 (by decide) ?_
                refine z_callVi C (As := [.int 7, .int 15, .int 1]) (rest := [.long (pf_X_mix x66 (Int32.toInt64 r68))]) m_X_winters tw_665 0 (le_X) rfl ⟨rfl, rfl⟩ (c_X_winters g hw) rfl rfl rfl d_X_digest_318 (fun r71 M70 hw => ?_)
                refine z_i2l C d_X_digest_321 ?_
                refine z_callSl C (As := [.long (pf_X_mix x66 (Int32.toInt64 r68)), .long (Int32.toInt64 r71)]) (rest := []) m_X_mix tw_628 ⟨rfl, rfl⟩ (c_X_mix (oX_ok g) _ _ _) rfl rfl rfl d_X_digest_322 (fun r M2 hq => ?_)
                obtain ⟨rfl, rfl⟩ := hq
                exact z_lret C hr hw d_X_digest_325
              · replace hw := hw.2 h41
                refine z_lload_n C d_X_digest_213 rfl 1 rfl ?_
                refine z_aload_n C d_X_digest_214 rfl 0 rfl ?_
                refine z_iload_n C d_X_digest_215 rfl 2 rfl ?_
                refine z_callVi C (As := [.int i39]) (rest := [.long l38]) m_X_deepest tw_659 0 (le_X) rfl ⟨rfl, rfl⟩ (c_X_deepest g hw) rfl rfl rfl d_X_digest_216 (fun r74 M73 hw => ?_)
                refine z_i2l C d_X_digest_219 ?_
                refine z_callSl C (As := [.long l38, .long (Int32.toInt64 r74)]) (rest := []) m_X_mix tw_628 ⟨rfl, rfl⟩ (c_X_mix (oX_ok g) _ _ _) rfl rfl rfl d_X_digest_220 (fun r M2 hq => ?_)
                obtain ⟨rfl, rfl⟩ := hq
                obtain ⟨x76, hx76⟩ : ∃ z : Int64, z = (pf_X_mix l38 (Int32.toInt64 r74)) := ⟨_, rfl⟩
                rw [← hx76]
                replace hw := hw x76 hx76
                refine z_lstore_n (lv' := [(1, .long x76), (0, .ref (ax g 0)), (3, .int i39)]) C d_X_digest_223 rfl rfl rfl ?_
                refine z_iinc (v := (i39 + 1)) (lv' := [(3, .int (i39 + 1)), (1, .long x76), (0, .ref (ax g 0))]) C d_X_digest_224 2 rfl rfl rfl rfl ?_
                refine z_goto C 208 d_X_digest_227 (by decide) ?_
                refine z_sub [2, 1, 0] rfl ?_
                exact ih37 _ _ _ hw
            · replace hw := hw.2 h35
              refine z_aload_n C d_X_digest_193 rfl 0 rfl ?_
              refine z_lload_n C d_X_digest_194 rfl 1 rfl ?_
              refine z_iload_n C d_X_digest_195 rfl 2 rfl ?_
              refine z_callVl C (As := [.long l32, .int i33]) (rest := []) m_X_mixBus tw_650 0 (le_X) rfl ⟨rfl, rfl⟩ (c_X_mixBus g hw) rfl rfl rfl d_X_digest_196 (fun r78 M77 hw => ?_)
              refine z_lstore_n (lv' := [(1, .long r78), (0, .ref (ax g 0)), (3, .int i33)]) C d_X_digest_199 rfl rfl rfl ?_
              refine z_iinc (v := (i33 + 1)) (lv' := [(3, .int (i33 + 1)), (1, .long r78), (0, .ref (ax g 0))]) C d_X_digest_200 2 rfl rfl rfl rfl ?_
              refine z_goto C 182 d_X_digest_203 (by decide) ?_
              refine z_sub [2, 1, 0] rfl ?_
              exact ih31 _ _ _ hw
          · replace hw := hw.2 h29
            refine z_aload_n C d_X_digest_167 rfl 0 rfl ?_
            refine z_lload_n C d_X_digest_168 rfl 1 rfl ?_
            refine z_iload_n C d_X_digest_169 rfl 2 rfl ?_
            refine z_callVl C (As := [.long l26, .int i27]) (rest := []) m_X_mixPlough tw_638 0 (le_X) rfl ⟨rfl, rfl⟩ (c_X_mixPlough g hw) rfl rfl rfl d_X_digest_170 (fun r80 M79 hw => ?_)
            refine z_lstore_n (lv' := [(1, .long r80), (0, .ref (ax g 0)), (3, .int i27)]) C d_X_digest_173 rfl rfl rfl ?_
            refine z_iinc (v := (i27 + 1)) (lv' := [(3, .int (i27 + 1)), (1, .long r80), (0, .ref (ax g 0))]) C d_X_digest_174 2 rfl rfl rfl rfl ?_
            refine z_goto C 156 d_X_digest_177 (by decide) ?_
            refine z_sub [2, 1, 0] rfl ?_
            exact ih25 _ _ _ hw
        · replace hw := hw.2 h23
          refine z_lload_n C d_X_digest_106 rfl 1 rfl ?_
          refine z_aload_n C d_X_digest_107 rfl 0 rfl ?_
          refine z_iload_n C d_X_digest_108 rfl 2 rfl ?_
          refine z_callVi C (As := [.int i21]) (rest := [.long l20]) m_X_land tw_635 0 (le_X) rfl ⟨rfl, rfl⟩ (c_X_land g hw) rfl rfl rfl d_X_digest_109 (fun r81 M2 hq => ?_)
          obtain ⟨rfl, hw⟩ := hq
          refine z_i2l C d_X_digest_112 ?_
          refine z_callSl C (As := [.long l20, .long (Int32.toInt64 r81)]) (rest := []) m_X_mix tw_628 ⟨rfl, rfl⟩ (c_X_mix (oX_ok g) _ _ _) rfl rfl rfl d_X_digest_113 (fun r M2 hq => ?_)
          obtain ⟨rfl, rfl⟩ := hq
          refine z_aload_n C d_X_digest_116 rfl 0 rfl ?_
          refine z_bipush (v := 6) C d_X_digest_117 (by decide) ?_
          refine z_iload_n C d_X_digest_119 rfl 2 rfl ?_
          refine z_callVi C (As := [.int 6, .int i21]) (rest := [.long (pf_X_mix l20 (Int32.toInt64 r81))]) m_X_deep tw_636 0 (le_X) rfl ⟨rfl, rfl⟩ (c_X_deep g hw) rfl rfl rfl d_X_digest_120 (fun r84 M83 hw => ?_)
          refine z_i2l C d_X_digest_123 ?_
          refine z_callSl C (As := [.long (pf_X_mix l20 (Int32.toInt64 r81)), .long (Int32.toInt64 r84)]) (rest := []) m_X_mix tw_628 ⟨rfl, rfl⟩ (c_X_mix (oX_ok g) _ _ _) rfl rfl rfl d_X_digest_124 (fun r M2 hq => ?_)
          obtain ⟨rfl, rfl⟩ := hq
          refine z_aload_n C d_X_digest_127 rfl 0 rfl ?_
          refine z_bipush (v := 20) C d_X_digest_128 (by decide) ?_
          refine z_iload_n C d_X_digest_130 rfl 2 rfl ?_
          refine z_callVi C (As := [.int 20, .int i21]) (rest := [.long (pf_X_mix (pf_X_mix l20 (Int32.toInt64 r81)) (Int32.toInt64 r84))]) m_X_deep tw_636 0 (le_X) rfl ⟨rfl, rfl⟩ (c_X_deep g hw) rfl rfl rfl d_X_digest_131 (fun r87 M86 hw => ?_)
          refine z_i2l C d_X_digest_134 ?_
          refine z_callSl C (As := [.long (pf_X_mix (pf_X_mix l20 (Int32.toInt64 r81)) (Int32.toInt64 r84)), .long (Int32.toInt64 r87)]) (rest := []) m_X_mix tw_628 ⟨rfl, rfl⟩ (c_X_mix (oX_ok g) _ _ _) rfl rfl rfl d_X_digest_135 (fun r M2 hq => ?_)
          obtain ⟨rfl, rfl⟩ := hq
          refine z_aload_n C d_X_digest_138 rfl 0 rfl ?_
          refine z_iload_n C d_X_digest_139 rfl 2 rfl ?_
          refine z_callVi C (As := [.int i21]) (rest := [.long (pf_X_mix (pf_X_mix (pf_X_mix l20 (Int32.toInt64 r81)) (Int32.toInt64 r84)) (Int32.toInt64 r87))]) m_X_lie tw_637 0 (le_X) rfl ⟨rfl, rfl⟩ (c_X_lie g hw) rfl rfl rfl d_X_digest_140 (fun r90 M89 hw => ?_)
          refine z_i2l C d_X_digest_143 ?_
          refine z_callSl C (As := [.long (pf_X_mix (pf_X_mix (pf_X_mix l20 (Int32.toInt64 r81)) (Int32.toInt64 r84)) (Int32.toInt64 r87)), .long (Int32.toInt64 r90)]) (rest := []) m_X_mix tw_628 ⟨rfl, rfl⟩ (c_X_mix (oX_ok g) _ _ _) rfl rfl rfl d_X_digest_144 (fun r M2 hq => ?_)
          obtain ⟨rfl, rfl⟩ := hq
          obtain ⟨x92, hx92⟩ : ∃ z : Int64, z = (pf_X_mix (pf_X_mix (pf_X_mix (pf_X_mix l20 (Int32.toInt64 r81)) (Int32.toInt64 r84)) (Int32.toInt64 r87)) (Int32.toInt64 r90)) := ⟨_, rfl⟩
          rw [← hx92]
          replace hw := hw x92 hx92
          refine z_lstore_n (lv' := [(1, .long x92), (0, .ref (ax g 0)), (3, .int i21)]) C d_X_digest_147 rfl rfl rfl ?_
          refine z_iinc (v := (i21 + 1)) (lv' := [(3, .int (i21 + 1)), (1, .long x92), (0, .ref (ax g 0))]) C d_X_digest_148 2 rfl rfl rfl rfl ?_
          refine z_goto C 100 d_X_digest_151 (by decide) ?_
          refine z_sub [2, 1, 0] rfl ?_
          exact ih19 _ _ _ hw
      · replace hw := hw.2 h17
        refine z_lload_n C d_X_digest_61 rfl 1 rfl ?_
        refine z_aload_n C d_X_digest_62 rfl 0 rfl ?_
        refine z_iload_n C d_X_digest_63 rfl 2 rfl ?_
        refine z_callVi C (As := [.int i15]) (rest := [.long l14]) m_X_fall tw_633 0 (le_X) rfl ⟨rfl, rfl⟩ (c_X_fall g hw) rfl rfl rfl d_X_digest_64 (fun r93 M2 hq => ?_)
        obtain ⟨rfl, hw⟩ := hq
        refine z_i2l C d_X_digest_67 ?_
        refine z_callSl C (As := [.long l14, .long (Int32.toInt64 r93)]) (rest := []) m_X_mix tw_628 ⟨rfl, rfl⟩ (c_X_mix (oX_ok g) _ _ _) rfl rfl rfl d_X_digest_68 (fun r M2 hq => ?_)
        obtain ⟨rfl, rfl⟩ := hq
        refine z_aload_n C d_X_digest_71 rfl 0 rfl ?_
        refine z_iload_n C d_X_digest_72 rfl 2 rfl ?_
        refine z_iconst (v := 0) C d_X_digest_73 (by decide) ?_
        refine z_callVi C (As := [.int i15, .int 0]) (rest := [.long (pf_X_mix l14 (Int32.toInt64 r93))]) m_X_snow tw_634 0 (le_X) rfl ⟨rfl, rfl⟩ (c_X_snow g hw) rfl rfl rfl d_X_digest_74 (fun r96 M95 hw => ?_)
        refine z_i2l C d_X_digest_77 ?_
        refine z_callSl C (As := [.long (pf_X_mix l14 (Int32.toInt64 r93)), .long (Int32.toInt64 r96)]) (rest := []) m_X_mix tw_628 ⟨rfl, rfl⟩ (c_X_mix (oX_ok g) _ _ _) rfl rfl rfl d_X_digest_78 (fun r M2 hq => ?_)
        obtain ⟨rfl, rfl⟩ := hq
        refine z_aload_n C d_X_digest_81 rfl 0 rfl ?_
        refine z_iload_n C d_X_digest_82 rfl 2 rfl ?_
        refine z_iconst (v := 1) C d_X_digest_83 (by decide) ?_
        refine z_callVi C (As := [.int i15, .int 1]) (rest := [.long (pf_X_mix (pf_X_mix l14 (Int32.toInt64 r93)) (Int32.toInt64 r96))]) m_X_snow tw_634 0 (le_X) rfl ⟨rfl, rfl⟩ (c_X_snow g hw) rfl rfl rfl d_X_digest_84 (fun r99 M98 hw => ?_)
        refine z_i2l C d_X_digest_87 ?_
        refine z_callSl C (As := [.long (pf_X_mix (pf_X_mix l14 (Int32.toInt64 r93)) (Int32.toInt64 r96)), .long (Int32.toInt64 r99)]) (rest := []) m_X_mix tw_628 ⟨rfl, rfl⟩ (c_X_mix (oX_ok g) _ _ _) rfl rfl rfl d_X_digest_88 (fun r M2 hq => ?_)
        obtain ⟨rfl, rfl⟩ := hq
        obtain ⟨x101, hx101⟩ : ∃ z : Int64, z = (pf_X_mix (pf_X_mix (pf_X_mix l14 (Int32.toInt64 r93)) (Int32.toInt64 r96)) (Int32.toInt64 r99)) := ⟨_, rfl⟩
        rw [← hx101]
        replace hw := hw x101 hx101
        refine z_lstore_n (lv' := [(1, .long x101), (0, .ref (ax g 0)), (3, .int i15)]) C d_X_digest_91 rfl rfl rfl ?_
        refine z_iinc (v := (i15 + 1)) (lv' := [(3, .int (i15 + 1)), (1, .long x101), (0, .ref (ax g 0))]) C d_X_digest_92 2 rfl rfl rfl rfl ?_
        refine z_goto C 55 d_X_digest_95 (by decide) ?_
        refine z_sub [2, 1, 0] rfl ?_
        exact ih13 _ _ _ hw
    · replace hw := hw.2 h11
      refine z_lload_n C d_X_digest_36 rfl 1 rfl ?_
      refine z_aload_n C d_X_digest_37 rfl 0 rfl ?_
      refine z_iload_n C d_X_digest_38 rfl 2 rfl ?_
      refine z_callVi C (As := [.int i10]) (rest := [.long l9]) m_X_fault tw_632 0 (le_X) rfl ⟨rfl, rfl⟩ (c_X_fault g hw) rfl rfl rfl d_X_digest_39 (fun r102 M2 hq => ?_)
      obtain ⟨rfl, hw⟩ := hq
      refine z_i2l C d_X_digest_42 ?_
      refine z_callSl C (As := [.long l9, .long (Int32.toInt64 r102)]) (rest := []) m_X_mix tw_628 ⟨rfl, rfl⟩ (c_X_mix (oX_ok g) _ _ _) rfl rfl rfl d_X_digest_43 (fun r M2 hq => ?_)
      obtain ⟨rfl, rfl⟩ := hq
      obtain ⟨x104, hx104⟩ : ∃ z : Int64, z = (pf_X_mix l9 (Int32.toInt64 r102)) := ⟨_, rfl⟩
      rw [← hx104]
      replace hw := hw x104 hx104
      refine z_lstore_n (lv' := [(1, .long x104), (0, .ref (ax g 0)), (3, .int i10)]) C d_X_digest_46 rfl rfl rfl ?_
      refine z_iinc (v := (i10 + 1)) (lv' := [(3, .int (i10 + 1)), (1, .long x104), (0, .ref (ax g 0))]) C d_X_digest_47 2 rfl rfl rfl rfl ?_
      refine z_goto C 31 d_X_digest_50 (by decide) ?_
      refine z_sub [2, 1, 0] rfl ?_
      exact ih8 _ _ hw
  · replace hw := hw.2 h6
    refine z_lload_n C d_X_digest_12 rfl 1 rfl ?_
    refine z_aload_n C d_X_digest_13 rfl 0 rfl ?_
    refine z_iload_n C d_X_digest_14 rfl 2 rfl ?_
    refine z_callVi C (As := [.int i4]) (rest := [.long l3]) m_X_count tw_627 0 (le_X) rfl ⟨rfl, rfl⟩ (c_X_count g hw) rfl rfl rfl d_X_digest_15 (fun r106 M105 hw => ?_)
    refine z_i2l C d_X_digest_18 ?_
    refine z_callSl C (As := [.long l3, .long (Int32.toInt64 r106)]) (rest := []) m_X_mix tw_628 ⟨rfl, rfl⟩ (c_X_mix (oX_ok g) _ _ _) rfl rfl rfl d_X_digest_19 (fun r M2 hq => ?_)
    obtain ⟨rfl, rfl⟩ := hq
    obtain ⟨x108, hx108⟩ : ∃ z : Int64, z = (pf_X_mix l3 (Int32.toInt64 r106)) := ⟨_, rfl⟩
    rw [← hx108]
    replace hw := hw x108 hx108
    refine z_lstore_n (lv' := [(1, .long x108), (0, .ref (ax g 0)), (3, .int i4)]) C d_X_digest_22 rfl rfl rfl ?_
    refine z_iinc (v := (i4 + 1)) (lv' := [(3, .int (i4 + 1)), (1, .long x108), (0, .ref (ax g 0))]) C d_X_digest_23 2 rfl rfl rfl rfl ?_
    refine z_goto C 6 d_X_digest_26 (by decide) ?_
    refine z_sub [2, 1, 0] rfl ?_
    exact ih2 _ _ _ hw
theorem d_R_deep_0 : decode prog_8_method_54_code 0 = .ok (.aload_n 0, 1) := by decide +kernel
theorem d_R_deep_1 : decode prog_8_method_54_code 1 = .ok (.invokevirtual 228, 3) := by decide +kernel
theorem d_R_deep_4 : decode prog_8_method_54_code 4 = .ok (.iload_n 1, 1) := by decide +kernel
theorem d_R_deep_5 : decode prog_8_method_54_code 5 = .ok (.invokestatic 178, 3) := by decide +kernel
theorem d_R_deep_8 : decode prog_8_method_54_code 8 = .ok (.ifCond .eq (24), 3) := by decide +kernel
theorem d_R_deep_11 : decode prog_8_method_54_code 11 = .ok (.iload_n 2, 1) := by decide +kernel
theorem d_R_deep_12 : decode prog_8_method_54_code 12 = .ok (.invokestatic 175, 3) := by decide +kernel
theorem d_R_deep_15 : decode prog_8_method_54_code 15 = .ok (.ifCond .eq (17), 3) := by decide +kernel
theorem d_R_deep_18 : decode prog_8_method_54_code 18 = .ok (.aload_n 0, 1) := by decide +kernel
theorem d_R_deep_19 : decode prog_8_method_54_code 19 = .ok (.getfield 70, 3) := by decide +kernel
theorem d_R_deep_22 : decode prog_8_method_54_code 22 = .ok (.bipush 12, 2) := by decide +kernel
theorem d_R_deep_24 : decode prog_8_method_54_code 24 = .ok (.iload_n 1, 1) := by decide +kernel
theorem d_R_deep_25 : decode prog_8_method_54_code 25 = .ok (.imul, 1) := by decide +kernel
theorem d_R_deep_26 : decode prog_8_method_54_code 26 = .ok (.iload_n 2, 1) := by decide +kernel
theorem d_R_deep_27 : decode prog_8_method_54_code 27 = .ok (.iadd, 1) := by decide +kernel
theorem d_R_deep_28 : decode prog_8_method_54_code 28 = .ok (.iaload, 1) := by decide +kernel
theorem d_R_deep_29 : decode prog_8_method_54_code 29 = .ok (.goto (5), 3) := by decide +kernel
theorem d_R_deep_32 : decode prog_8_method_54_code 32 = .ok (.bipush (-2), 2) := by decide +kernel
theorem d_R_deep_34 : decode prog_8_method_54_code 34 = .ok (.ireturn, 1) := by decide +kernel
def wp_R_deep (a1 : Int32) (a2 : Int32) (M : Mem) (post : Int32 → Mem → Prop) : Prop :=
  wp_R_find M (fun M1 => ((((pf_R_isHour a1) = 0) → True) ∧ (¬ ((pf_R_isHour a1) = 0) → ((((pf_R_isMile a2) = 0) → True) ∧ (¬ ((pf_R_isMile a2) = 0) → (vp_in ((12 * a1) + a2) 288))))) ∧ (∀ u8 : Int32, u8 = (if (pf_R_isHour a1) = 0 then (-2) else (if (pf_R_isMile a2) = 0 then (-2) else (M1 21 (tn ((12 * a1) + a2))))) → post u8 M1))
set_option maxHeartbeats 4000000 in
set_option maxRecDepth 100000 in
theorem c_R_deep (g : GX) {a1 : Int32} {a2 : Int32} {M : Mem} {post : Int32 → Mem → Prop} (hw : wp_R_deep a1 a2 M post) : CtI (oR g) y_R_deep prog_8_method_54_code 3 (some .int) (rl 6) [.ref (ax g 0), .int a1, .int a2] M post := by
  refine z_metI (oR_ok g) (by decide) rfl (fun X C hr => ?_)
  show Zj X 3 (oR g) M 0 [(0, .ref (ax g 0)), (1, .int a1), (2, .int a2)] []
  unfold wp_R_deep at hw
  refine z_aload_n C d_R_deep_0 rfl 0 rfl ?_
  refine z_callVv C (As := []) (rest := []) m_R_find tw_931 0 (le_R) rfl ⟨rfl, rfl⟩ (c_R_find g hw) rfl rfl rfl d_R_deep_1 (fun M1 hw => ?_)
  refine z_iload_n C d_R_deep_4 rfl 1 rfl ?_
  refine z_callSi C (As := [.int a1]) (rest := []) m_R_isHour tw_889 ⟨rfl, rfl⟩ (c_R_isHour (oR_ok g) _ _) rfl rfl rfl d_R_deep_5 (fun r M2 hq => ?_)
  obtain ⟨rfl, rfl⟩ := hq
  have hj9 : ∀ u8 : Int32, u8 = (if (pf_R_isHour a1) = 0 then (-2) else (if (pf_R_isMile a2) = 0 then (-2) else (M1 21 (tn ((12 * a1) + a2))))) → Zj X 3 (oR g) M1 34 [] [.int u8] := by
    intro u8 hu8
    replace hw := hw.2 u8 hu8
    exact z_iret C hr hw d_R_deep_34
  have ha0 := hw.1
  refine z_if_eq C 32 d_R_deep_8 (by decide) (fun h4 => ?_) (fun h4 => ?_)
  · refine z_bipush (v := (-2)) C d_R_deep_32 (by decide) ?_
    refine z_sub [] rfl ?_
    exact hj9 _ ((if_pos h4)).symm
  · have ha10 := ha0.2 h4
    refine z_iload_n C d_R_deep_11 rfl 2 rfl ?_
    refine z_callSi C (As := [.int a2]) (rest := []) m_R_isMile tw_881 ⟨rfl, rfl⟩ (c_R_isMile (oR_ok g) _ _) rfl rfl rfl d_R_deep_12 (fun r M2 hq => ?_)
    obtain ⟨rfl, rfl⟩ := hq
    refine z_if_eq C 32 d_R_deep_15 (by decide) (fun h6 => ?_) (fun h6 => ?_)
    · refine z_bipush (v := (-2)) C d_R_deep_32 (by decide) ?_
      refine z_sub [] rfl ?_
      exact hj9 _ (((if_neg h4).trans (if_pos h6))).symm
    · have ha11 := ha10.2 h6
      refine z_aload_n C d_R_deep_18 rfl 0 rfl ?_
      refine gf_R_70 C d_R_deep_19 ?_
      refine z_bipush (v := 12) C d_R_deep_22 (by decide) ?_
      refine z_iload_n C d_R_deep_24 rfl 1 rfl ?_
      refine z_imul C d_R_deep_25 ?_
      refine z_iload_n C d_R_deep_26 rfl 2 rfl ?_
      refine z_iadd C d_R_deep_27 ?_
      have hv7 := ha11
      refine z_al (zar_r21) C hv7 d_R_deep_28 ?_
      refine z_goto C 34 d_R_deep_29 (by decide) ?_
      refine z_sub [] rfl ?_
      exact hj9 _ (((if_neg h4).trans (if_neg h6))).symm
theorem d_R_at_0 : decode prog_8_method_56_code 0 = .ok (.aload_n 0, 1) := by decide +kernel
theorem d_R_at_1 : decode prog_8_method_56_code 1 = .ok (.invokevirtual 228, 3) := by decide +kernel
theorem d_R_at_4 : decode prog_8_method_56_code 4 = .ok (.iload_n 1, 1) := by decide +kernel
theorem d_R_at_5 : decode prog_8_method_56_code 5 = .ok (.invokestatic 178, 3) := by decide +kernel
theorem d_R_at_8 : decode prog_8_method_56_code 8 = .ok (.ifCond .eq (33), 3) := by decide +kernel
theorem d_R_at_11 : decode prog_8_method_56_code 11 = .ok (.aload_n 0, 1) := by decide +kernel
theorem d_R_at_12 : decode prog_8_method_56_code 12 = .ok (.iload_n 2, 1) := by decide +kernel
theorem d_R_at_13 : decode prog_8_method_56_code 13 = .ok (.invokevirtual 181, 3) := by decide +kernel
theorem d_R_at_16 : decode prog_8_method_56_code 16 = .ok (.ifCond .eq (25), 3) := by decide +kernel
theorem d_R_at_19 : decode prog_8_method_56_code 19 = .ok (.iload_n 3, 1) := by decide +kernel
theorem d_R_at_20 : decode prog_8_method_56_code 20 = .ok (.i2l, 1) := by decide +kernel
theorem d_R_at_21 : decode prog_8_method_56_code 21 = .ok (.lconst 0, 1) := by decide +kernel
theorem d_R_at_22 : decode prog_8_method_56_code 22 = .ok (.ldc2_w 110, 3) := by decide +kernel
theorem d_R_at_25 : decode prog_8_method_56_code 25 = .ok (.invokestatic 97, 3) := by decide +kernel
theorem d_R_at_28 : decode prog_8_method_56_code 28 = .ok (.ifCond .eq (13), 3) := by decide +kernel
theorem d_R_at_31 : decode prog_8_method_56_code 31 = .ok (.aload_n 0, 1) := by decide +kernel
theorem d_R_at_32 : decode prog_8_method_56_code 32 = .ok (.iload_n 1, 1) := by decide +kernel
theorem d_R_at_33 : decode prog_8_method_56_code 33 = .ok (.iload_n 2, 1) := by decide +kernel
theorem d_R_at_34 : decode prog_8_method_56_code 34 = .ok (.iload_n 3, 1) := by decide +kernel
theorem d_R_at_35 : decode prog_8_method_56_code 35 = .ok (.invokevirtual 231, 3) := by decide +kernel
theorem d_R_at_38 : decode prog_8_method_56_code 38 = .ok (.goto (5), 3) := by decide +kernel
theorem d_R_at_41 : decode prog_8_method_56_code 41 = .ok (.bipush (-2), 2) := by decide +kernel
theorem d_R_at_43 : decode prog_8_method_56_code 43 = .ok (.ireturn, 1) := by decide +kernel
def wp_R_at (a1 : Int32) (a2 : Int32) (a3 : Int32) (M : Mem) (post : Int32 → Mem → Prop) : Prop :=
  wp_R_find M (fun M1 => ((((pf_R_isHour a1) = 0) → post (-2) M1) ∧ (¬ ((pf_R_isHour a1) = 0) → wp_R_isPlough a2 M1 (fun r5 => (((r5 = 0) → post (-2) M1) ∧ (¬ (r5 = 0) → ((((pf_R_in (Int32.toInt64 a3) 0 (2)) = 0) → post (-2) M1) ∧ (¬ ((pf_R_in (Int32.toInt64 a3) 0 (2)) = 0) → wp_R_atBy a1 a2 a3 M1 (fun r9 => post r9 M1)))))))))
set_option maxHeartbeats 4000000 in
set_option maxRecDepth 100000 in
theorem c_R_at (g : GX) {a1 : Int32} {a2 : Int32} {a3 : Int32} {M : Mem} {post : Int32 → Mem → Prop} (hw : wp_R_at a1 a2 a3 M post) : CtI (oR g) y_R_at prog_8_method_56_code 4 (some .int) (rl 6) [.ref (ax g 0), .int a1, .int a2, .int a3] M post := by
  refine z_metI (oR_ok g) (by decide) rfl (fun X C hr => ?_)
  show Zj X 4 (oR g) M 0 [(0, .ref (ax g 0)), (1, .int a1), (2, .int a2), (3, .int a3)] []
  unfold wp_R_at at hw
  refine z_aload_n C d_R_at_0 rfl 0 rfl ?_
  refine z_callVv C (As := []) (rest := []) m_R_find tw_931 0 (le_R) rfl ⟨rfl, rfl⟩ (c_R_find g hw) rfl rfl rfl d_R_at_1 (fun M1 hw => ?_)
  refine z_iload_n C d_R_at_4 rfl 1 rfl ?_
  refine z_callSi C (As := [.int a1]) (rest := []) m_R_isHour tw_889 ⟨rfl, rfl⟩ (c_R_isHour (oR_ok g) _ _) rfl rfl rfl d_R_at_5 (fun r M2 hq => ?_)
  obtain ⟨rfl, rfl⟩ := hq
  refine z_if_eq C 41 d_R_at_8 (by decide) (fun h4 => ?_) (fun h4 => ?_)
  · replace hw := hw.1 h4
    refine z_bipush (v := (-2)) C d_R_at_41 (by decide) ?_
    exact z_iret C hr hw d_R_at_43
  · replace hw := hw.2 h4
    refine z_aload_n C d_R_at_11 rfl 0 rfl ?_
    refine z_iload_n C d_R_at_12 rfl 2 rfl ?_
    refine z_callVi C (As := [.int a2]) (rest := []) m_R_isPlough tw_897 0 (le_R) rfl ⟨rfl, rfl⟩ (c_R_isPlough g hw) rfl rfl rfl d_R_at_13 (fun r5 M2 hq => ?_)
    obtain ⟨rfl, hw⟩ := hq
    refine z_if_eq C 41 d_R_at_16 (by decide) (fun h6 => ?_) (fun h6 => ?_)
    · replace hw := hw.1 h6
      refine z_bipush (v := (-2)) C d_R_at_41 (by decide) ?_
      exact z_iret C hr hw d_R_at_43
    · replace hw := hw.2 h6
      refine z_iload_n C d_R_at_19 rfl 3 rfl ?_
      refine z_i2l C d_R_at_20 ?_
      refine z_lconst (v := 0) C d_R_at_21 (by decide) ?_
      refine z_ldc2 C d_R_at_22 tw_789 ?_
      refine z_callSi C (As := [.long (Int32.toInt64 a3), .long 0, .long (2)]) (rest := []) m_R_in tw_786 ⟨rfl, rfl⟩ (c_R_in (oR_ok g) _ _ _ _) rfl rfl rfl d_R_at_25 (fun r M2 hq => ?_)
      obtain ⟨rfl, rfl⟩ := hq
      refine z_if_eq C 41 d_R_at_28 (by decide) (fun h8 => ?_) (fun h8 => ?_)
      · replace hw := hw.1 h8
        refine z_bipush (v := (-2)) C d_R_at_41 (by decide) ?_
        exact z_iret C hr hw d_R_at_43
      · replace hw := hw.2 h8
        refine z_aload_n C d_R_at_31 rfl 0 rfl ?_
        refine z_iload_n C d_R_at_32 rfl 1 rfl ?_
        refine z_iload_n C d_R_at_33 rfl 2 rfl ?_
        refine z_iload_n C d_R_at_34 rfl 3 rfl ?_
        refine z_callVi C (As := [.int a1, .int a2, .int a3]) (rest := []) m_R_atBy tw_973 0 (le_R) rfl ⟨rfl, rfl⟩ (c_R_atBy g hw) rfl rfl rfl d_R_at_35 (fun r9 M2 hq => ?_)
        obtain ⟨rfl, hw⟩ := hq
        refine z_goto C 43 d_R_at_38 (by decide) ?_
        exact z_iret C hr hw d_R_at_43
