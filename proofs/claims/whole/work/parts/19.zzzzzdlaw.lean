theorem dL_make_0 : decode cL_make 0 = .ok (.aload 4, 2) := by decide +kernel
theorem dL_make_2 : decode cL_make 2 = .ok (.iconst 0, 1) := by decide +kernel
theorem dL_make_3 : decode cL_make 3 = .ok (.aload_n 0, 1) := by decide +kernel
theorem dL_make_4 : decode cL_make 4 = .ok (.iload_n 1, 1) := by decide +kernel
theorem dL_make_5 : decode cL_make 5 = .ok (.iload_n 2, 1) := by decide +kernel
theorem dL_make_6 : decode cL_make 6 = .ok (.iload_n 3, 1) := by decide +kernel
theorem dL_make_7 : decode cL_make 7 = .ok (.invokevirtual 7, 3) := by decide +kernel
theorem dL_make_10 : decode cL_make 10 = .ok (.i2l, 1) := by decide +kernel
theorem dL_make_11 : decode cL_make 11 = .ok (.lastore, 1) := by decide +kernel
theorem dL_make_12 : decode cL_make 12 = .ok (.goto 7, 3) := by decide +kernel
theorem dL_make_15 : decode cL_make 15 = .ok (.astore 5, 2) := by decide +kernel
theorem dL_make_17 : decode cL_make 17 = .ok (.iconst 1, 1) := by decide +kernel
theorem dL_make_18 : decode cL_make 18 = .ok (.ireturn, 1) := by decide +kernel
theorem dL_make_19 : decode cL_make 19 = .ok (.iconst 0, 1) := by decide +kernel
theorem dL_make_20 : decode cL_make 20 = .ok (.ireturn, 1) := by decide +kernel
theorem dL_put_0 : decode cL_put 0 = .ok (.aload_n 3, 1) := by decide +kernel
theorem dL_put_1 : decode cL_put 1 = .ok (.iconst 0, 1) := by decide +kernel
theorem dL_put_2 : decode cL_put 2 = .ok (.aload_n 0, 1) := by decide +kernel
theorem dL_put_3 : decode cL_put 3 = .ok (.iload_n 1, 1) := by decide +kernel
theorem dL_put_4 : decode cL_put 4 = .ok (.iload_n 2, 1) := by decide +kernel
theorem dL_put_5 : decode cL_put 5 = .ok (.invokevirtual 15, 3) := by decide +kernel
theorem dL_put_8 : decode cL_put 8 = .ok (.lastore, 1) := by decide +kernel
theorem dL_put_9 : decode cL_put 9 = .ok (.goto 7, 3) := by decide +kernel
theorem dL_put_12 : decode cL_put 12 = .ok (.astore 4, 2) := by decide +kernel
theorem dL_put_14 : decode cL_put 14 = .ok (.iconst 1, 1) := by decide +kernel
theorem dL_put_15 : decode cL_put 15 = .ok (.ireturn, 1) := by decide +kernel
theorem dL_put_16 : decode cL_put 16 = .ok (.iconst 0, 1) := by decide +kernel
theorem dL_put_17 : decode cL_put 17 = .ok (.ireturn, 1) := by decide +kernel
theorem dL_find_0 : decode cL_find 0 = .ok (.aload_n 3, 1) := by decide +kernel
theorem dL_find_1 : decode cL_find 1 = .ok (.iconst 0, 1) := by decide +kernel
theorem dL_find_2 : decode cL_find 2 = .ok (.aload_n 0, 1) := by decide +kernel
theorem dL_find_3 : decode cL_find 3 = .ok (.iload_n 1, 1) := by decide +kernel
theorem dL_find_4 : decode cL_find 4 = .ok (.iload_n 2, 1) := by decide +kernel
theorem dL_find_5 : decode cL_find 5 = .ok (.invokevirtual 21, 3) := by decide +kernel
theorem dL_find_8 : decode cL_find 8 = .ok (.i2l, 1) := by decide +kernel
theorem dL_find_9 : decode cL_find 9 = .ok (.lastore, 1) := by decide +kernel
theorem dL_find_10 : decode cL_find 10 = .ok (.goto 7, 3) := by decide +kernel
theorem dL_find_13 : decode cL_find 13 = .ok (.astore 4, 2) := by decide +kernel
theorem dL_find_15 : decode cL_find 15 = .ok (.iconst 1, 1) := by decide +kernel
theorem dL_find_16 : decode cL_find 16 = .ok (.ireturn, 1) := by decide +kernel
theorem dL_find_17 : decode cL_find 17 = .ok (.iconst 0, 1) := by decide +kernel
theorem dL_find_18 : decode cL_find 18 = .ok (.ireturn, 1) := by decide +kernel
theorem dL_fill_0 : decode cL_fill 0 = .ok (.aload 4, 2) := by decide +kernel
theorem dL_fill_2 : decode cL_fill 2 = .ok (.iconst 0, 1) := by decide +kernel
theorem dL_fill_3 : decode cL_fill 3 = .ok (.aload_n 0, 1) := by decide +kernel
theorem dL_fill_4 : decode cL_fill 4 = .ok (.iload_n 1, 1) := by decide +kernel
theorem dL_fill_5 : decode cL_fill 5 = .ok (.iload_n 2, 1) := by decide +kernel
theorem dL_fill_6 : decode cL_fill 6 = .ok (.iload_n 3, 1) := by decide +kernel
theorem dL_fill_7 : decode cL_fill 7 = .ok (.invokevirtual 27, 3) := by decide +kernel
theorem dL_fill_10 : decode cL_fill 10 = .ok (.i2l, 1) := by decide +kernel
theorem dL_fill_11 : decode cL_fill 11 = .ok (.lastore, 1) := by decide +kernel
theorem dL_fill_12 : decode cL_fill 12 = .ok (.goto 7, 3) := by decide +kernel
theorem dL_fill_15 : decode cL_fill 15 = .ok (.astore 5, 2) := by decide +kernel
theorem dL_fill_17 : decode cL_fill 17 = .ok (.iconst 1, 1) := by decide +kernel
theorem dL_fill_18 : decode cL_fill 18 = .ok (.ireturn, 1) := by decide +kernel
theorem dL_fill_19 : decode cL_fill 19 = .ok (.iconst 0, 1) := by decide +kernel
theorem dL_fill_20 : decode cL_fill 20 = .ok (.ireturn, 1) := by decide +kernel
theorem dL_at_0 : decode cL_at 0 = .ok (.aload_n 2, 1) := by decide +kernel
theorem dL_at_1 : decode cL_at 1 = .ok (.iconst 0, 1) := by decide +kernel
theorem dL_at_2 : decode cL_at 2 = .ok (.aload_n 0, 1) := by decide +kernel
theorem dL_at_3 : decode cL_at 3 = .ok (.iload_n 1, 1) := by decide +kernel
theorem dL_at_4 : decode cL_at 4 = .ok (.invokevirtual 30, 3) := by decide +kernel
theorem dL_at_7 : decode cL_at 7 = .ok (.i2l, 1) := by decide +kernel
theorem dL_at_8 : decode cL_at 8 = .ok (.lastore, 1) := by decide +kernel
theorem dL_at_9 : decode cL_at 9 = .ok (.goto 6, 3) := by decide +kernel
theorem dL_at_12 : decode cL_at 12 = .ok (.astore_n 3, 1) := by decide +kernel
theorem dL_at_13 : decode cL_at 13 = .ok (.iconst 1, 1) := by decide +kernel
theorem dL_at_14 : decode cL_at 14 = .ok (.ireturn, 1) := by decide +kernel
theorem dL_at_15 : decode cL_at 15 = .ok (.iconst 0, 1) := by decide +kernel
theorem dL_at_16 : decode cL_at 16 = .ok (.ireturn, 1) := by decide +kernel
theorem dL_after_0 : decode cL_after 0 = .ok (.aload_n 2, 1) := by decide +kernel
theorem dL_after_1 : decode cL_after 1 = .ok (.iconst 0, 1) := by decide +kernel
theorem dL_after_2 : decode cL_after 2 = .ok (.aload_n 0, 1) := by decide +kernel
theorem dL_after_3 : decode cL_after 3 = .ok (.iload_n 1, 1) := by decide +kernel
theorem dL_after_4 : decode cL_after 4 = .ok (.invokevirtual 34, 3) := by decide +kernel
theorem dL_after_7 : decode cL_after 7 = .ok (.i2l, 1) := by decide +kernel
theorem dL_after_8 : decode cL_after 8 = .ok (.lastore, 1) := by decide +kernel
theorem dL_after_9 : decode cL_after 9 = .ok (.goto 6, 3) := by decide +kernel
theorem dL_after_12 : decode cL_after 12 = .ok (.astore_n 3, 1) := by decide +kernel
theorem dL_after_13 : decode cL_after 13 = .ok (.iconst 1, 1) := by decide +kernel
theorem dL_after_14 : decode cL_after 14 = .ok (.ireturn, 1) := by decide +kernel
theorem dL_after_15 : decode cL_after 15 = .ok (.iconst 0, 1) := by decide +kernel
theorem dL_after_16 : decode cL_after 16 = .ok (.ireturn, 1) := by decide +kernel
theorem dL_law_0 : decode code 0 = .ok (.new 8, 3) := by decide +kernel
theorem dL_law_3 : decode code 3 = .ok (.dup, 1) := by decide +kernel
theorem dL_law_4 : decode code 4 = .ok (.invokespecial 37, 3) := by decide +kernel
theorem dL_law_7 : decode code 7 = .ok (.astore_n 1, 1) := by decide +kernel
theorem dL_law_8 : decode code 8 = .ok (.new 38, 3) := by decide +kernel
theorem dL_law_11 : decode code 11 = .ok (.dup, 1) := by decide +kernel
theorem dL_law_12 : decode code 12 = .ok (.invokespecial 40, 3) := by decide +kernel
theorem dL_law_15 : decode code 15 = .ok (.astore_n 2, 1) := by decide +kernel
theorem dL_law_16 : decode code 16 = .ok (.iconst 1, 1) := by decide +kernel
theorem dL_law_17 : decode code 17 = .ok (.newarray .long, 2) := by decide +kernel
theorem dL_law_19 : decode code 19 = .ok (.astore_n 3, 1) := by decide +kernel
theorem dL_law_20 : decode code 20 = .ok (.iconst 0, 1) := by decide +kernel
theorem dL_law_21 : decode code 21 = .ok (.istore 4, 2) := by decide +kernel
theorem dL_law_23 : decode code 23 = .ok (.iload 4, 2) := by decide +kernel
theorem dL_law_25 : decode code 25 = .ok (.aload_n 0, 1) := by decide +kernel
theorem dL_law_26 : decode code 26 = .ok (.arraylength, 1) := by decide +kernel
theorem dL_law_27 : decode code 27 = .ok (.iconst 4, 1) := by decide +kernel
theorem dL_law_28 : decode code 28 = .ok (.isub, 1) := by decide +kernel
theorem dL_law_29 : decode code 29 = .ok (.if_icmp .gt 573, 3) := by decide +kernel
theorem dL_law_32 : decode code 32 = .ok (.aload_n 0, 1) := by decide +kernel
theorem dL_law_33 : decode code 33 = .ok (.iload 4, 2) := by decide +kernel
theorem dL_law_35 : decode code 35 = .ok (.iaload, 1) := by decide +kernel
theorem dL_law_36 : decode code 36 = .ok (.bipush 15, 2) := by decide +kernel
theorem dL_law_38 : decode code 38 = .ok (.iand, 1) := by decide +kernel
theorem dL_law_39 : decode code 39 = .ok (.tableswitch 557 0 10 #[57, 137, 204, 288, 313, 393, 449, 505, 518, 531, 544], 57) := by decide +kernel
theorem dL_law_96 : decode code 96 = .ok (.aload_n 1, 1) := by decide +kernel
theorem dL_law_97 : decode code 97 = .ok (.aload_n 0, 1) := by decide +kernel
theorem dL_law_98 : decode code 98 = .ok (.iload 4, 2) := by decide +kernel
theorem dL_law_100 : decode code 100 = .ok (.iconst 1, 1) := by decide +kernel
theorem dL_law_101 : decode code 101 = .ok (.iadd, 1) := by decide +kernel
theorem dL_law_102 : decode code 102 = .ok (.iaload, 1) := by decide +kernel
theorem dL_law_103 : decode code 103 = .ok (.aload_n 0, 1) := by decide +kernel
theorem dL_law_104 : decode code 104 = .ok (.iload 4, 2) := by decide +kernel
theorem dL_law_106 : decode code 106 = .ok (.iconst 2, 1) := by decide +kernel
theorem dL_law_107 : decode code 107 = .ok (.iadd, 1) := by decide +kernel
theorem dL_law_108 : decode code 108 = .ok (.iaload, 1) := by decide +kernel
theorem dL_law_109 : decode code 109 = .ok (.aload_n 0, 1) := by decide +kernel
theorem dL_law_110 : decode code 110 = .ok (.iload 4, 2) := by decide +kernel
theorem dL_law_112 : decode code 112 = .ok (.iconst 3, 1) := by decide +kernel
theorem dL_law_113 : decode code 113 = .ok (.iadd, 1) := by decide +kernel
theorem dL_law_114 : decode code 114 = .ok (.iaload, 1) := by decide +kernel
theorem dL_law_115 : decode code 115 = .ok (.aload_n 3, 1) := by decide +kernel
theorem dL_law_116 : decode code 116 = .ok (.invokestatic 41, 3) := by decide +kernel
theorem dL_law_119 : decode code 119 = .ok (.istore 5, 2) := by decide +kernel
theorem dL_law_121 : decode code 121 = .ok (.aload_n 2, 1) := by decide +kernel
theorem dL_law_122 : decode code 122 = .ok (.aload_n 0, 1) := by decide +kernel
theorem dL_law_123 : decode code 123 = .ok (.iload 4, 2) := by decide +kernel
theorem dL_law_125 : decode code 125 = .ok (.iconst 1, 1) := by decide +kernel
theorem dL_law_126 : decode code 126 = .ok (.iadd, 1) := by decide +kernel
theorem dL_law_127 : decode code 127 = .ok (.iaload, 1) := by decide +kernel
theorem dL_law_128 : decode code 128 = .ok (.aload_n 0, 1) := by decide +kernel
theorem dL_law_129 : decode code 129 = .ok (.iload 4, 2) := by decide +kernel
theorem dL_law_131 : decode code 131 = .ok (.iconst 2, 1) := by decide +kernel
theorem dL_law_132 : decode code 132 = .ok (.iadd, 1) := by decide +kernel
theorem dL_law_133 : decode code 133 = .ok (.iaload, 1) := by decide +kernel
theorem dL_law_134 : decode code 134 = .ok (.aload_n 0, 1) := by decide +kernel
theorem dL_law_135 : decode code 135 = .ok (.iload 4, 2) := by decide +kernel
theorem dL_law_137 : decode code 137 = .ok (.iconst 3, 1) := by decide +kernel
theorem dL_law_138 : decode code 138 = .ok (.iadd, 1) := by decide +kernel
theorem dL_law_139 : decode code 139 = .ok (.iaload, 1) := by decide +kernel
theorem dL_law_140 : decode code 140 = .ok (.invokevirtual 46, 3) := by decide +kernel
theorem dL_law_143 : decode code 143 = .ok (.istore 6, 2) := by decide +kernel
theorem dL_law_145 : decode code 145 = .ok (.aload_n 2, 1) := by decide +kernel
theorem dL_law_146 : decode code 146 = .ok (.invokevirtual 47, 3) := by decide +kernel
theorem dL_law_149 : decode code 149 = .ok (.iload 5, 2) := by decide +kernel
theorem dL_law_151 : decode code 151 = .ok (.if_icmp .eq 5, 3) := by decide +kernel
theorem dL_law_154 : decode code 154 = .ok (.iconst 0, 1) := by decide +kernel
theorem dL_law_155 : decode code 155 = .ok (.ireturn, 1) := by decide +kernel
theorem dL_law_156 : decode code 156 = .ok (.iload 5, 2) := by decide +kernel
theorem dL_law_158 : decode code 158 = .ok (.ifCond .ne 15, 3) := by decide +kernel
theorem dL_law_161 : decode code 161 = .ok (.aload_n 3, 1) := by decide +kernel
theorem dL_law_162 : decode code 162 = .ok (.iconst 0, 1) := by decide +kernel
theorem dL_law_163 : decode code 163 = .ok (.laload, 1) := by decide +kernel
theorem dL_law_164 : decode code 164 = .ok (.iload 6, 2) := by decide +kernel
theorem dL_law_166 : decode code 166 = .ok (.i2l, 1) := by decide +kernel
theorem dL_law_167 : decode code 167 = .ok (.lcmp, 1) := by decide +kernel
theorem dL_law_168 : decode code 168 = .ok (.ifCond .eq 5, 3) := by decide +kernel
theorem dL_law_171 : decode code 171 = .ok (.iconst 0, 1) := by decide +kernel
theorem dL_law_172 : decode code 172 = .ok (.ireturn, 1) := by decide +kernel
theorem dL_law_173 : decode code 173 = .ok (.goto 423, 3) := by decide +kernel
theorem dL_law_176 : decode code 176 = .ok (.aload_n 1, 1) := by decide +kernel
theorem dL_law_177 : decode code 177 = .ok (.aload_n 0, 1) := by decide +kernel
theorem dL_law_178 : decode code 178 = .ok (.iload 4, 2) := by decide +kernel
theorem dL_law_180 : decode code 180 = .ok (.iconst 1, 1) := by decide +kernel
theorem dL_law_181 : decode code 181 = .ok (.iadd, 1) := by decide +kernel
theorem dL_law_182 : decode code 182 = .ok (.iaload, 1) := by decide +kernel
theorem dL_law_183 : decode code 183 = .ok (.aload_n 0, 1) := by decide +kernel
theorem dL_law_184 : decode code 184 = .ok (.iload 4, 2) := by decide +kernel
theorem dL_law_186 : decode code 186 = .ok (.iconst 2, 1) := by decide +kernel
theorem dL_law_187 : decode code 187 = .ok (.iadd, 1) := by decide +kernel
theorem dL_law_188 : decode code 188 = .ok (.iaload, 1) := by decide +kernel
theorem dL_law_189 : decode code 189 = .ok (.aload_n 3, 1) := by decide +kernel
theorem dL_law_190 : decode code 190 = .ok (.invokestatic 51, 3) := by decide +kernel
theorem dL_law_193 : decode code 193 = .ok (.istore 5, 2) := by decide +kernel
theorem dL_law_195 : decode code 195 = .ok (.aload_n 2, 1) := by decide +kernel
theorem dL_law_196 : decode code 196 = .ok (.aload_n 0, 1) := by decide +kernel
theorem dL_law_197 : decode code 197 = .ok (.iload 4, 2) := by decide +kernel
theorem dL_law_199 : decode code 199 = .ok (.iconst 1, 1) := by decide +kernel
theorem dL_law_200 : decode code 200 = .ok (.iadd, 1) := by decide +kernel
theorem dL_law_201 : decode code 201 = .ok (.iaload, 1) := by decide +kernel
theorem dL_law_202 : decode code 202 = .ok (.aload_n 0, 1) := by decide +kernel
theorem dL_law_203 : decode code 203 = .ok (.iload 4, 2) := by decide +kernel
theorem dL_law_205 : decode code 205 = .ok (.iconst 2, 1) := by decide +kernel
theorem dL_law_206 : decode code 206 = .ok (.iadd, 1) := by decide +kernel
theorem dL_law_207 : decode code 207 = .ok (.iaload, 1) := by decide +kernel
theorem dL_law_208 : decode code 208 = .ok (.invokevirtual 54, 3) := by decide +kernel
theorem dL_law_211 : decode code 211 = .ok (.lstore 6, 2) := by decide +kernel
theorem dL_law_213 : decode code 213 = .ok (.aload_n 2, 1) := by decide +kernel
theorem dL_law_214 : decode code 214 = .ok (.invokevirtual 47, 3) := by decide +kernel
theorem dL_law_217 : decode code 217 = .ok (.iload 5, 2) := by decide +kernel
theorem dL_law_219 : decode code 219 = .ok (.if_icmp .eq 5, 3) := by decide +kernel
theorem dL_law_222 : decode code 222 = .ok (.iconst 0, 1) := by decide +kernel
theorem dL_law_223 : decode code 223 = .ok (.ireturn, 1) := by decide +kernel
theorem dL_law_224 : decode code 224 = .ok (.iload 5, 2) := by decide +kernel
theorem dL_law_226 : decode code 226 = .ok (.ifCond .ne 14, 3) := by decide +kernel
theorem dL_law_229 : decode code 229 = .ok (.aload_n 3, 1) := by decide +kernel
theorem dL_law_230 : decode code 230 = .ok (.iconst 0, 1) := by decide +kernel
theorem dL_law_231 : decode code 231 = .ok (.laload, 1) := by decide +kernel
theorem dL_law_232 : decode code 232 = .ok (.lload 6, 2) := by decide +kernel
theorem dL_law_234 : decode code 234 = .ok (.lcmp, 1) := by decide +kernel
theorem dL_law_235 : decode code 235 = .ok (.ifCond .eq 5, 3) := by decide +kernel
theorem dL_law_238 : decode code 238 = .ok (.iconst 0, 1) := by decide +kernel
theorem dL_law_239 : decode code 239 = .ok (.ireturn, 1) := by decide +kernel
theorem dL_law_240 : decode code 240 = .ok (.goto 356, 3) := by decide +kernel
theorem dL_law_243 : decode code 243 = .ok (.aload_n 1, 1) := by decide +kernel
theorem dL_law_244 : decode code 244 = .ok (.aload_n 0, 1) := by decide +kernel
theorem dL_law_245 : decode code 245 = .ok (.iload 4, 2) := by decide +kernel
theorem dL_law_247 : decode code 247 = .ok (.iconst 1, 1) := by decide +kernel
theorem dL_law_248 : decode code 248 = .ok (.iadd, 1) := by decide +kernel
theorem dL_law_249 : decode code 249 = .ok (.iaload, 1) := by decide +kernel
theorem dL_law_250 : decode code 250 = .ok (.aload_n 0, 1) := by decide +kernel
theorem dL_law_251 : decode code 251 = .ok (.iload 4, 2) := by decide +kernel
theorem dL_law_253 : decode code 253 = .ok (.iconst 2, 1) := by decide +kernel
theorem dL_law_254 : decode code 254 = .ok (.iadd, 1) := by decide +kernel
theorem dL_law_255 : decode code 255 = .ok (.iaload, 1) := by decide +kernel
theorem dL_law_256 : decode code 256 = .ok (.ifCond .eq 7, 3) := by decide +kernel
theorem dL_law_259 : decode code 259 = .ok (.iconst 1, 1) := by decide +kernel
theorem dL_law_260 : decode code 260 = .ok (.goto 4, 3) := by decide +kernel
theorem dL_law_263 : decode code 263 = .ok (.iconst 0, 1) := by decide +kernel
theorem dL_law_264 : decode code 264 = .ok (.aload_n 3, 1) := by decide +kernel
theorem dL_law_265 : decode code 265 = .ok (.invokestatic 55, 3) := by decide +kernel
theorem dL_law_268 : decode code 268 = .ok (.istore 5, 2) := by decide +kernel
theorem dL_law_270 : decode code 270 = .ok (.aload_n 2, 1) := by decide +kernel
theorem dL_law_271 : decode code 271 = .ok (.aload_n 0, 1) := by decide +kernel
theorem dL_law_272 : decode code 272 = .ok (.iload 4, 2) := by decide +kernel
theorem dL_law_274 : decode code 274 = .ok (.iconst 1, 1) := by decide +kernel
theorem dL_law_275 : decode code 275 = .ok (.iadd, 1) := by decide +kernel
theorem dL_law_276 : decode code 276 = .ok (.iaload, 1) := by decide +kernel
theorem dL_law_277 : decode code 277 = .ok (.aload_n 0, 1) := by decide +kernel
theorem dL_law_278 : decode code 278 = .ok (.iload 4, 2) := by decide +kernel
theorem dL_law_280 : decode code 280 = .ok (.iconst 2, 1) := by decide +kernel
theorem dL_law_281 : decode code 281 = .ok (.iadd, 1) := by decide +kernel
theorem dL_law_282 : decode code 282 = .ok (.iaload, 1) := by decide +kernel
theorem dL_law_283 : decode code 283 = .ok (.ifCond .eq 7, 3) := by decide +kernel
theorem dL_law_286 : decode code 286 = .ok (.iconst 1, 1) := by decide +kernel
theorem dL_law_287 : decode code 287 = .ok (.goto 4, 3) := by decide +kernel
theorem dL_law_290 : decode code 290 = .ok (.iconst 0, 1) := by decide +kernel
theorem dL_law_291 : decode code 291 = .ok (.invokevirtual 58, 3) := by decide +kernel
theorem dL_law_294 : decode code 294 = .ok (.istore 6, 2) := by decide +kernel
theorem dL_law_296 : decode code 296 = .ok (.aload_n 2, 1) := by decide +kernel
theorem dL_law_297 : decode code 297 = .ok (.invokevirtual 47, 3) := by decide +kernel
theorem dL_law_300 : decode code 300 = .ok (.iload 5, 2) := by decide +kernel
theorem dL_law_302 : decode code 302 = .ok (.if_icmp .eq 5, 3) := by decide +kernel
theorem dL_law_305 : decode code 305 = .ok (.iconst 0, 1) := by decide +kernel
theorem dL_law_306 : decode code 306 = .ok (.ireturn, 1) := by decide +kernel
theorem dL_law_307 : decode code 307 = .ok (.iload 5, 2) := by decide +kernel
theorem dL_law_309 : decode code 309 = .ok (.ifCond .ne 15, 3) := by decide +kernel
theorem dL_law_312 : decode code 312 = .ok (.aload_n 3, 1) := by decide +kernel
theorem dL_law_313 : decode code 313 = .ok (.iconst 0, 1) := by decide +kernel
theorem dL_law_314 : decode code 314 = .ok (.laload, 1) := by decide +kernel
theorem dL_law_315 : decode code 315 = .ok (.iload 6, 2) := by decide +kernel
theorem dL_law_317 : decode code 317 = .ok (.i2l, 1) := by decide +kernel
theorem dL_law_318 : decode code 318 = .ok (.lcmp, 1) := by decide +kernel
theorem dL_law_319 : decode code 319 = .ok (.ifCond .eq 5, 3) := by decide +kernel
theorem dL_law_322 : decode code 322 = .ok (.iconst 0, 1) := by decide +kernel
theorem dL_law_323 : decode code 323 = .ok (.ireturn, 1) := by decide +kernel
theorem dL_law_324 : decode code 324 = .ok (.goto 272, 3) := by decide +kernel
theorem dL_law_327 : decode code 327 = .ok (.aload_n 1, 1) := by decide +kernel
theorem dL_law_328 : decode code 328 = .ok (.aload_n 0, 1) := by decide +kernel
theorem dL_law_329 : decode code 329 = .ok (.iload 4, 2) := by decide +kernel
theorem dL_law_331 : decode code 331 = .ok (.iconst 1, 1) := by decide +kernel
theorem dL_law_332 : decode code 332 = .ok (.iadd, 1) := by decide +kernel
theorem dL_law_333 : decode code 333 = .ok (.iaload, 1) := by decide +kernel
theorem dL_law_334 : decode code 334 = .ok (.invokevirtual 59, 3) := by decide +kernel
theorem dL_law_337 : decode code 337 = .ok (.aload_n 2, 1) := by decide +kernel
theorem dL_law_338 : decode code 338 = .ok (.aload_n 0, 1) := by decide +kernel
theorem dL_law_339 : decode code 339 = .ok (.iload 4, 2) := by decide +kernel
theorem dL_law_341 : decode code 341 = .ok (.iconst 1, 1) := by decide +kernel
theorem dL_law_342 : decode code 342 = .ok (.iadd, 1) := by decide +kernel
theorem dL_law_343 : decode code 343 = .ok (.iaload, 1) := by decide +kernel
theorem dL_law_344 : decode code 344 = .ok (.invokevirtual 63, 3) := by decide +kernel
theorem dL_law_347 : decode code 347 = .ok (.if_icmp .eq 249, 3) := by decide +kernel
theorem dL_law_350 : decode code 350 = .ok (.iconst 0, 1) := by decide +kernel
theorem dL_law_351 : decode code 351 = .ok (.ireturn, 1) := by decide +kernel
theorem dL_law_352 : decode code 352 = .ok (.aload_n 1, 1) := by decide +kernel
theorem dL_law_353 : decode code 353 = .ok (.aload_n 0, 1) := by decide +kernel
theorem dL_law_354 : decode code 354 = .ok (.iload 4, 2) := by decide +kernel
theorem dL_law_356 : decode code 356 = .ok (.iconst 1, 1) := by decide +kernel
theorem dL_law_357 : decode code 357 = .ok (.iadd, 1) := by decide +kernel
theorem dL_law_358 : decode code 358 = .ok (.iaload, 1) := by decide +kernel
theorem dL_law_359 : decode code 359 = .ok (.aload_n 0, 1) := by decide +kernel
theorem dL_law_360 : decode code 360 = .ok (.iload 4, 2) := by decide +kernel
theorem dL_law_362 : decode code 362 = .ok (.iconst 2, 1) := by decide +kernel
theorem dL_law_363 : decode code 363 = .ok (.iadd, 1) := by decide +kernel
theorem dL_law_364 : decode code 364 = .ok (.iaload, 1) := by decide +kernel
theorem dL_law_365 : decode code 365 = .ok (.aload_n 0, 1) := by decide +kernel
theorem dL_law_366 : decode code 366 = .ok (.iload 4, 2) := by decide +kernel
theorem dL_law_368 : decode code 368 = .ok (.iconst 3, 1) := by decide +kernel
theorem dL_law_369 : decode code 369 = .ok (.iadd, 1) := by decide +kernel
theorem dL_law_370 : decode code 370 = .ok (.iaload, 1) := by decide +kernel
theorem dL_law_371 : decode code 371 = .ok (.aload_n 3, 1) := by decide +kernel
theorem dL_law_372 : decode code 372 = .ok (.invokestatic 64, 3) := by decide +kernel
theorem dL_law_375 : decode code 375 = .ok (.istore 5, 2) := by decide +kernel
theorem dL_law_377 : decode code 377 = .ok (.aload_n 2, 1) := by decide +kernel
theorem dL_law_378 : decode code 378 = .ok (.aload_n 0, 1) := by decide +kernel
theorem dL_law_379 : decode code 379 = .ok (.iload 4, 2) := by decide +kernel
theorem dL_law_381 : decode code 381 = .ok (.iconst 1, 1) := by decide +kernel
theorem dL_law_382 : decode code 382 = .ok (.iadd, 1) := by decide +kernel
theorem dL_law_383 : decode code 383 = .ok (.iaload, 1) := by decide +kernel
theorem dL_law_384 : decode code 384 = .ok (.aload_n 0, 1) := by decide +kernel
theorem dL_law_385 : decode code 385 = .ok (.iload 4, 2) := by decide +kernel
theorem dL_law_387 : decode code 387 = .ok (.iconst 2, 1) := by decide +kernel
theorem dL_law_388 : decode code 388 = .ok (.iadd, 1) := by decide +kernel
theorem dL_law_389 : decode code 389 = .ok (.iaload, 1) := by decide +kernel
theorem dL_law_390 : decode code 390 = .ok (.aload_n 0, 1) := by decide +kernel
theorem dL_law_391 : decode code 391 = .ok (.iload 4, 2) := by decide +kernel
theorem dL_law_393 : decode code 393 = .ok (.iconst 3, 1) := by decide +kernel
theorem dL_law_394 : decode code 394 = .ok (.iadd, 1) := by decide +kernel
theorem dL_law_395 : decode code 395 = .ok (.iaload, 1) := by decide +kernel
theorem dL_law_396 : decode code 396 = .ok (.invokevirtual 66, 3) := by decide +kernel
theorem dL_law_399 : decode code 399 = .ok (.istore 6, 2) := by decide +kernel
theorem dL_law_401 : decode code 401 = .ok (.aload_n 2, 1) := by decide +kernel
theorem dL_law_402 : decode code 402 = .ok (.invokevirtual 47, 3) := by decide +kernel
theorem dL_law_405 : decode code 405 = .ok (.iload 5, 2) := by decide +kernel
theorem dL_law_407 : decode code 407 = .ok (.if_icmp .eq 5, 3) := by decide +kernel
theorem dL_law_410 : decode code 410 = .ok (.iconst 0, 1) := by decide +kernel
theorem dL_law_411 : decode code 411 = .ok (.ireturn, 1) := by decide +kernel
theorem dL_law_412 : decode code 412 = .ok (.iload 5, 2) := by decide +kernel
theorem dL_law_414 : decode code 414 = .ok (.ifCond .ne 15, 3) := by decide +kernel
theorem dL_law_417 : decode code 417 = .ok (.aload_n 3, 1) := by decide +kernel
theorem dL_law_418 : decode code 418 = .ok (.iconst 0, 1) := by decide +kernel
theorem dL_law_419 : decode code 419 = .ok (.laload, 1) := by decide +kernel
theorem dL_law_420 : decode code 420 = .ok (.iload 6, 2) := by decide +kernel
theorem dL_law_422 : decode code 422 = .ok (.i2l, 1) := by decide +kernel
theorem dL_law_423 : decode code 423 = .ok (.lcmp, 1) := by decide +kernel
theorem dL_law_424 : decode code 424 = .ok (.ifCond .eq 5, 3) := by decide +kernel
theorem dL_law_427 : decode code 427 = .ok (.iconst 0, 1) := by decide +kernel
theorem dL_law_428 : decode code 428 = .ok (.ireturn, 1) := by decide +kernel
theorem dL_law_429 : decode code 429 = .ok (.goto 167, 3) := by decide +kernel
theorem dL_law_432 : decode code 432 = .ok (.aload_n 1, 1) := by decide +kernel
theorem dL_law_433 : decode code 433 = .ok (.aload_n 0, 1) := by decide +kernel
theorem dL_law_434 : decode code 434 = .ok (.iload 4, 2) := by decide +kernel
theorem dL_law_436 : decode code 436 = .ok (.iconst 1, 1) := by decide +kernel
theorem dL_law_437 : decode code 437 = .ok (.iadd, 1) := by decide +kernel
theorem dL_law_438 : decode code 438 = .ok (.iaload, 1) := by decide +kernel
theorem dL_law_439 : decode code 439 = .ok (.aload_n 3, 1) := by decide +kernel
theorem dL_law_440 : decode code 440 = .ok (.invokestatic 67, 3) := by decide +kernel
theorem dL_law_443 : decode code 443 = .ok (.istore 5, 2) := by decide +kernel
theorem dL_law_445 : decode code 445 = .ok (.aload_n 2, 1) := by decide +kernel
theorem dL_law_446 : decode code 446 = .ok (.aload_n 0, 1) := by decide +kernel
theorem dL_law_447 : decode code 447 = .ok (.iload 4, 2) := by decide +kernel
theorem dL_law_449 : decode code 449 = .ok (.iconst 1, 1) := by decide +kernel
theorem dL_law_450 : decode code 450 = .ok (.iadd, 1) := by decide +kernel
theorem dL_law_451 : decode code 451 = .ok (.iaload, 1) := by decide +kernel
theorem dL_law_452 : decode code 452 = .ok (.invokevirtual 70, 3) := by decide +kernel
theorem dL_law_455 : decode code 455 = .ok (.istore 6, 2) := by decide +kernel
theorem dL_law_457 : decode code 457 = .ok (.aload_n 2, 1) := by decide +kernel
theorem dL_law_458 : decode code 458 = .ok (.invokevirtual 47, 3) := by decide +kernel
theorem dL_law_461 : decode code 461 = .ok (.iload 5, 2) := by decide +kernel
theorem dL_law_463 : decode code 463 = .ok (.if_icmp .eq 5, 3) := by decide +kernel
theorem dL_law_466 : decode code 466 = .ok (.iconst 0, 1) := by decide +kernel
theorem dL_law_467 : decode code 467 = .ok (.ireturn, 1) := by decide +kernel
theorem dL_law_468 : decode code 468 = .ok (.iload 5, 2) := by decide +kernel
theorem dL_law_470 : decode code 470 = .ok (.ifCond .ne 15, 3) := by decide +kernel
theorem dL_law_473 : decode code 473 = .ok (.aload_n 3, 1) := by decide +kernel
theorem dL_law_474 : decode code 474 = .ok (.iconst 0, 1) := by decide +kernel
theorem dL_law_475 : decode code 475 = .ok (.laload, 1) := by decide +kernel
theorem dL_law_476 : decode code 476 = .ok (.iload 6, 2) := by decide +kernel
theorem dL_law_478 : decode code 478 = .ok (.i2l, 1) := by decide +kernel
theorem dL_law_479 : decode code 479 = .ok (.lcmp, 1) := by decide +kernel
theorem dL_law_480 : decode code 480 = .ok (.ifCond .eq 5, 3) := by decide +kernel
theorem dL_law_483 : decode code 483 = .ok (.iconst 0, 1) := by decide +kernel
theorem dL_law_484 : decode code 484 = .ok (.ireturn, 1) := by decide +kernel
theorem dL_law_485 : decode code 485 = .ok (.goto 111, 3) := by decide +kernel
theorem dL_law_488 : decode code 488 = .ok (.aload_n 1, 1) := by decide +kernel
theorem dL_law_489 : decode code 489 = .ok (.aload_n 0, 1) := by decide +kernel
theorem dL_law_490 : decode code 490 = .ok (.iload 4, 2) := by decide +kernel
theorem dL_law_492 : decode code 492 = .ok (.iconst 1, 1) := by decide +kernel
theorem dL_law_493 : decode code 493 = .ok (.iadd, 1) := by decide +kernel
theorem dL_law_494 : decode code 494 = .ok (.iaload, 1) := by decide +kernel
theorem dL_law_495 : decode code 495 = .ok (.aload_n 3, 1) := by decide +kernel
theorem dL_law_496 : decode code 496 = .ok (.invokestatic 71, 3) := by decide +kernel
theorem dL_law_499 : decode code 499 = .ok (.istore 5, 2) := by decide +kernel
theorem dL_law_501 : decode code 501 = .ok (.aload_n 2, 1) := by decide +kernel
theorem dL_law_502 : decode code 502 = .ok (.aload_n 0, 1) := by decide +kernel
theorem dL_law_503 : decode code 503 = .ok (.iload 4, 2) := by decide +kernel
theorem dL_law_505 : decode code 505 = .ok (.iconst 1, 1) := by decide +kernel
theorem dL_law_506 : decode code 506 = .ok (.iadd, 1) := by decide +kernel
theorem dL_law_507 : decode code 507 = .ok (.iaload, 1) := by decide +kernel
theorem dL_law_508 : decode code 508 = .ok (.invokevirtual 73, 3) := by decide +kernel
theorem dL_law_511 : decode code 511 = .ok (.istore 6, 2) := by decide +kernel
theorem dL_law_513 : decode code 513 = .ok (.aload_n 2, 1) := by decide +kernel
theorem dL_law_514 : decode code 514 = .ok (.invokevirtual 47, 3) := by decide +kernel
theorem dL_law_517 : decode code 517 = .ok (.iload 5, 2) := by decide +kernel
theorem dL_law_519 : decode code 519 = .ok (.if_icmp .eq 5, 3) := by decide +kernel
theorem dL_law_522 : decode code 522 = .ok (.iconst 0, 1) := by decide +kernel
theorem dL_law_523 : decode code 523 = .ok (.ireturn, 1) := by decide +kernel
theorem dL_law_524 : decode code 524 = .ok (.iload 5, 2) := by decide +kernel
theorem dL_law_526 : decode code 526 = .ok (.ifCond .ne 15, 3) := by decide +kernel
theorem dL_law_529 : decode code 529 = .ok (.aload_n 3, 1) := by decide +kernel
theorem dL_law_530 : decode code 530 = .ok (.iconst 0, 1) := by decide +kernel
theorem dL_law_531 : decode code 531 = .ok (.laload, 1) := by decide +kernel
theorem dL_law_532 : decode code 532 = .ok (.iload 6, 2) := by decide +kernel
theorem dL_law_534 : decode code 534 = .ok (.i2l, 1) := by decide +kernel
theorem dL_law_535 : decode code 535 = .ok (.lcmp, 1) := by decide +kernel
theorem dL_law_536 : decode code 536 = .ok (.ifCond .eq 5, 3) := by decide +kernel
theorem dL_law_539 : decode code 539 = .ok (.iconst 0, 1) := by decide +kernel
theorem dL_law_540 : decode code 540 = .ok (.ireturn, 1) := by decide +kernel
theorem dL_law_541 : decode code 541 = .ok (.goto 55, 3) := by decide +kernel
theorem dL_law_544 : decode code 544 = .ok (.aload_n 1, 1) := by decide +kernel
theorem dL_law_545 : decode code 545 = .ok (.invokevirtual 74, 3) := by decide +kernel
theorem dL_law_548 : decode code 548 = .ok (.aload_n 2, 1) := by decide +kernel
theorem dL_law_549 : decode code 549 = .ok (.invokevirtual 77, 3) := by decide +kernel
theorem dL_law_552 : decode code 552 = .ok (.if_icmp .eq 44, 3) := by decide +kernel
theorem dL_law_555 : decode code 555 = .ok (.iconst 0, 1) := by decide +kernel
theorem dL_law_556 : decode code 556 = .ok (.ireturn, 1) := by decide +kernel
theorem dL_law_557 : decode code 557 = .ok (.aload_n 1, 1) := by decide +kernel
theorem dL_law_558 : decode code 558 = .ok (.invokevirtual 78, 3) := by decide +kernel
theorem dL_law_561 : decode code 561 = .ok (.aload_n 2, 1) := by decide +kernel
theorem dL_law_562 : decode code 562 = .ok (.invokevirtual 81, 3) := by decide +kernel
theorem dL_law_565 : decode code 565 = .ok (.if_icmp .eq 31, 3) := by decide +kernel
theorem dL_law_568 : decode code 568 = .ok (.iconst 0, 1) := by decide +kernel
theorem dL_law_569 : decode code 569 = .ok (.ireturn, 1) := by decide +kernel
theorem dL_law_570 : decode code 570 = .ok (.aload_n 1, 1) := by decide +kernel
theorem dL_law_571 : decode code 571 = .ok (.invokevirtual 82, 3) := by decide +kernel
theorem dL_law_574 : decode code 574 = .ok (.aload_n 2, 1) := by decide +kernel
theorem dL_law_575 : decode code 575 = .ok (.invokevirtual 85, 3) := by decide +kernel
theorem dL_law_578 : decode code 578 = .ok (.if_icmp .eq 18, 3) := by decide +kernel
theorem dL_law_581 : decode code 581 = .ok (.iconst 0, 1) := by decide +kernel
theorem dL_law_582 : decode code 582 = .ok (.ireturn, 1) := by decide +kernel
theorem dL_law_583 : decode code 583 = .ok (.aload_n 1, 1) := by decide +kernel
theorem dL_law_584 : decode code 584 = .ok (.invokevirtual 86, 3) := by decide +kernel
theorem dL_law_587 : decode code 587 = .ok (.aload_n 2, 1) := by decide +kernel
theorem dL_law_588 : decode code 588 = .ok (.invokevirtual 89, 3) := by decide +kernel
theorem dL_law_591 : decode code 591 = .ok (.if_icmp .eq 5, 3) := by decide +kernel
theorem dL_law_594 : decode code 594 = .ok (.iconst 0, 1) := by decide +kernel
theorem dL_law_595 : decode code 595 = .ok (.ireturn, 1) := by decide +kernel
theorem dL_law_596 : decode code 596 = .ok (.iinc 4 4, 3) := by decide +kernel
theorem dL_law_599 : decode code 599 = .ok (.goto (-576), 3) := by decide +kernel
theorem dL_law_602 : decode code 602 = .ok (.iconst 1, 1) := by decide +kernel
theorem dL_law_603 : decode code 603 = .ok (.ireturn, 1) := by decide +kernel
