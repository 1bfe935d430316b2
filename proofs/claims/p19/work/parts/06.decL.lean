theorem dL_below_0 : decode cL_below 0 = .ok (.iload_n 0, 1) := by decide +kernel
theorem dL_below_1 : decode cL_below 1 = .ok (.ldc 7, 2) := by decide +kernel
theorem dL_below_3 : decode cL_below 3 = .ok (.iand, 1) := by decide +kernel
theorem dL_below_4 : decode cL_below 4 = .ok (.iload_n 1, 1) := by decide +kernel
theorem dL_below_5 : decode cL_below 5 = .ok (.irem, 1) := by decide +kernel
theorem dL_below_6 : decode cL_below 6 = .ok (.ireturn, 1) := by decide +kernel
theorem dL_cell_0 : decode cL_cell 0 = .ok (.iload_n 1, 1) := by decide +kernel
theorem dL_cell_1 : decode cL_cell 1 = .ok (.aload_n 0, 1) := by decide +kernel
theorem dL_cell_2 : decode cL_cell 2 = .ok (.arraylength, 1) := by decide +kernel
theorem dL_cell_3 : decode cL_cell 3 = .ok (.if_icmp .ge 9, 3) := by decide +kernel
theorem dL_cell_6 : decode cL_cell 6 = .ok (.aload_n 0, 1) := by decide +kernel
theorem dL_cell_7 : decode cL_cell 7 = .ok (.iload_n 1, 1) := by decide +kernel
theorem dL_cell_8 : decode cL_cell 8 = .ok (.iaload, 1) := by decide +kernel
theorem dL_cell_9 : decode cL_cell 9 = .ok (.goto 9, 3) := by decide +kernel
theorem dL_cell_12 : decode cL_cell 12 = .ok (.ldc 8, 2) := by decide +kernel
theorem dL_cell_14 : decode cL_cell 14 = .ok (.iload_n 1, 1) := by decide +kernel
theorem dL_cell_15 : decode cL_cell 15 = .ok (.iconst 3, 1) := by decide +kernel
theorem dL_cell_16 : decode cL_cell 16 = .ok (.iadd, 1) := by decide +kernel
theorem dL_cell_17 : decode cL_cell 17 = .ok (.imul, 1) := by decide +kernel
theorem dL_cell_18 : decode cL_cell 18 = .ok (.ireturn, 1) := by decide +kernel
theorem dL_line_0 : decode cL_line 0 = .ok (.new 9, 3) := by decide +kernel
theorem dL_line_3 : decode cL_line 3 = .ok (.dup, 1) := by decide +kernel
theorem dL_line_4 : decode cL_line 4 = .ok (.invokespecial 11, 3) := by decide +kernel
theorem dL_line_7 : decode cL_line 7 = .ok (.astore_n 1, 1) := by decide +kernel
theorem dL_line_8 : decode cL_line 8 = .ok (.iconst 0, 1) := by decide +kernel
theorem dL_line_9 : decode cL_line 9 = .ok (.istore_n 2, 1) := by decide +kernel
theorem dL_line_10 : decode cL_line 10 = .ok (.iload_n 2, 1) := by decide +kernel
theorem dL_line_11 : decode cL_line 11 = .ok (.bipush 10, 2) := by decide +kernel
theorem dL_line_13 : decode cL_line 13 = .ok (.if_icmp .ge 73, 3) := by decide +kernel
theorem dL_line_16 : decode cL_line 16 = .ok (.aload_n 0, 1) := by decide +kernel
theorem dL_line_17 : decode cL_line 17 = .ok (.iconst 0, 1) := by decide +kernel
theorem dL_line_18 : decode cL_line 18 = .ok (.invokestatic 12, 3) := by decide +kernel
theorem dL_line_21 : decode cL_line 21 = .ok (.iconst 2, 1) := by decide +kernel
theorem dL_line_22 : decode cL_line 22 = .ok (.iload_n 2, 1) := by decide +kernel
theorem dL_line_23 : decode cL_line 23 = .ok (.imul, 1) := by decide +kernel
theorem dL_line_24 : decode cL_line 24 = .ok (.ishr, 1) := by decide +kernel
theorem dL_line_25 : decode cL_line 25 = .ok (.iconst 3, 1) := by decide +kernel
theorem dL_line_26 : decode cL_line 26 = .ok (.invokestatic 18, 3) := by decide +kernel
theorem dL_line_29 : decode cL_line 29 = .ok (.ifCond .ne 51, 3) := by decide +kernel
theorem dL_line_32 : decode cL_line 32 = .ok (.aload_n 1, 1) := by decide +kernel
theorem dL_line_33 : decode cL_line 33 = .ok (.iload_n 2, 1) := by decide +kernel
theorem dL_line_34 : decode cL_line 34 = .ok (.iconst 1, 1) := by decide +kernel
theorem dL_line_35 : decode cL_line 35 = .ok (.aload_n 0, 1) := by decide +kernel
theorem dL_line_36 : decode cL_line 36 = .ok (.iconst 1, 1) := by decide +kernel
theorem dL_line_37 : decode cL_line 37 = .ok (.invokestatic 12, 3) := by decide +kernel
theorem dL_line_40 : decode cL_line 40 = .ok (.iload_n 2, 1) := by decide +kernel
theorem dL_line_41 : decode cL_line 41 = .ok (.ishr, 1) := by decide +kernel
theorem dL_line_42 : decode cL_line 42 = .ok (.bipush 9, 2) := by decide +kernel
theorem dL_line_44 : decode cL_line 44 = .ok (.invokestatic 18, 3) := by decide +kernel
theorem dL_line_47 : decode cL_line 47 = .ok (.iadd, 1) := by decide +kernel
theorem dL_line_48 : decode cL_line 48 = .ok (.aload_n 0, 1) := by decide +kernel
theorem dL_line_49 : decode cL_line 49 = .ok (.iconst 2, 1) := by decide +kernel
theorem dL_line_50 : decode cL_line 50 = .ok (.invokestatic 12, 3) := by decide +kernel
theorem dL_line_53 : decode cL_line 53 = .ok (.iload_n 2, 1) := by decide +kernel
theorem dL_line_54 : decode cL_line 54 = .ok (.ishr, 1) := by decide +kernel
theorem dL_line_55 : decode cL_line 55 = .ok (.aload_n 0, 1) := by decide +kernel
theorem dL_line_56 : decode cL_line 56 = .ok (.iconst 2, 1) := by decide +kernel
theorem dL_line_57 : decode cL_line 57 = .ok (.invokestatic 12, 3) := by decide +kernel
theorem dL_line_60 : decode cL_line 60 = .ok (.iconst 2, 1) := by decide +kernel
theorem dL_line_61 : decode cL_line 61 = .ok (.invokestatic 18, 3) := by decide +kernel
theorem dL_line_64 : decode cL_line 64 = .ok (.ifCond .ne 8, 3) := by decide +kernel
theorem dL_line_67 : decode cL_line 67 = .ok (.bipush 10, 2) := by decide +kernel
theorem dL_line_69 : decode cL_line 69 = .ok (.goto 4, 3) := by decide +kernel
theorem dL_line_72 : decode cL_line 72 = .ok (.iconst 3, 1) := by decide +kernel
theorem dL_line_73 : decode cL_line 73 = .ok (.invokestatic 18, 3) := by decide +kernel
theorem dL_line_76 : decode cL_line 76 = .ok (.invokevirtual 22, 3) := by decide +kernel
theorem dL_line_79 : decode cL_line 79 = .ok (.pop, 1) := by decide +kernel
theorem dL_line_80 : decode cL_line 80 = .ok (.iinc 2 1, 3) := by decide +kernel
theorem dL_line_83 : decode cL_line 83 = .ok (.goto (-73), 3) := by decide +kernel
theorem dL_line_86 : decode cL_line 86 = .ok (.aload_n 0, 1) := by decide +kernel
theorem dL_line_87 : decode cL_line 87 = .ok (.iconst 3, 1) := by decide +kernel
theorem dL_line_88 : decode cL_line 88 = .ok (.invokestatic 12, 3) := by decide +kernel
theorem dL_line_91 : decode cL_line 91 = .ok (.iconst 2, 1) := by decide +kernel
theorem dL_line_92 : decode cL_line 92 = .ok (.invokestatic 18, 3) := by decide +kernel
theorem dL_line_95 : decode cL_line 95 = .ok (.ifCond .ne 20, 3) := by decide +kernel
theorem dL_line_98 : decode cL_line 98 = .ok (.aload_n 1, 1) := by decide +kernel
theorem dL_line_99 : decode cL_line 99 = .ok (.aload_n 0, 1) := by decide +kernel
theorem dL_line_100 : decode cL_line 100 = .ok (.iconst 3, 1) := by decide +kernel
theorem dL_line_101 : decode cL_line 101 = .ok (.invokestatic 12, 3) := by decide +kernel
theorem dL_line_104 : decode cL_line 104 = .ok (.iconst 2, 1) := by decide +kernel
theorem dL_line_105 : decode cL_line 105 = .ok (.ishr, 1) := by decide +kernel
theorem dL_line_106 : decode cL_line 106 = .ok (.bipush 16, 2) := by decide +kernel
theorem dL_line_108 : decode cL_line 108 = .ok (.invokestatic 18, 3) := by decide +kernel
theorem dL_line_111 : decode cL_line 111 = .ok (.invokevirtual 26, 3) := by decide +kernel
theorem dL_line_114 : decode cL_line 114 = .ok (.pop, 1) := by decide +kernel
theorem dL_line_115 : decode cL_line 115 = .ok (.aload_n 0, 1) := by decide +kernel
theorem dL_line_116 : decode cL_line 116 = .ok (.iconst 4, 1) := by decide +kernel
theorem dL_line_117 : decode cL_line 117 = .ok (.invokestatic 12, 3) := by decide +kernel
theorem dL_line_120 : decode cL_line 120 = .ok (.bipush 7, 2) := by decide +kernel
theorem dL_line_122 : decode cL_line 122 = .ok (.invokestatic 18, 3) := by decide +kernel
theorem dL_line_125 : decode cL_line 125 = .ok (.istore_n 2, 1) := by decide +kernel
theorem dL_line_126 : decode cL_line 126 = .ok (.iconst 0, 1) := by decide +kernel
theorem dL_line_127 : decode cL_line 127 = .ok (.istore_n 3, 1) := by decide +kernel
theorem dL_line_128 : decode cL_line 128 = .ok (.iload_n 3, 1) := by decide +kernel
theorem dL_line_129 : decode cL_line 129 = .ok (.iload_n 2, 1) := by decide +kernel
theorem dL_line_130 : decode cL_line 130 = .ok (.if_icmp .ge 100, 3) := by decide +kernel
theorem dL_line_133 : decode cL_line 133 = .ok (.aload_n 1, 1) := by decide +kernel
theorem dL_line_134 : decode cL_line 134 = .ok (.aload_n 0, 1) := by decide +kernel
theorem dL_line_135 : decode cL_line 135 = .ok (.iconst 5, 1) := by decide +kernel
theorem dL_line_136 : decode cL_line 136 = .ok (.invokestatic 12, 3) := by decide +kernel
theorem dL_line_139 : decode cL_line 139 = .ok (.iconst 3, 1) := by decide +kernel
theorem dL_line_140 : decode cL_line 140 = .ok (.iload_n 3, 1) := by decide +kernel
theorem dL_line_141 : decode cL_line 141 = .ok (.imul, 1) := by decide +kernel
theorem dL_line_142 : decode cL_line 142 = .ok (.ishr, 1) := by decide +kernel
theorem dL_line_143 : decode cL_line 143 = .ok (.bipush 10, 2) := by decide +kernel
theorem dL_line_145 : decode cL_line 145 = .ok (.invokestatic 18, 3) := by decide +kernel
theorem dL_line_148 : decode cL_line 148 = .ok (.iconst 1, 1) := by decide +kernel
theorem dL_line_149 : decode cL_line 149 = .ok (.aload_n 0, 1) := by decide +kernel
theorem dL_line_150 : decode cL_line 150 = .ok (.bipush 6, 2) := by decide +kernel
theorem dL_line_152 : decode cL_line 152 = .ok (.invokestatic 12, 3) := by decide +kernel
theorem dL_line_155 : decode cL_line 155 = .ok (.iconst 2, 1) := by decide +kernel
theorem dL_line_156 : decode cL_line 156 = .ok (.iload_n 3, 1) := by decide +kernel
theorem dL_line_157 : decode cL_line 157 = .ok (.imul, 1) := by decide +kernel
theorem dL_line_158 : decode cL_line 158 = .ok (.ishr, 1) := by decide +kernel
theorem dL_line_159 : decode cL_line 159 = .ok (.aload_n 0, 1) := by decide +kernel
theorem dL_line_160 : decode cL_line 160 = .ok (.bipush 6, 2) := by decide +kernel
theorem dL_line_162 : decode cL_line 162 = .ok (.invokestatic 12, 3) := by decide +kernel
theorem dL_line_165 : decode cL_line 165 = .ok (.iconst 2, 1) := by decide +kernel
theorem dL_line_166 : decode cL_line 166 = .ok (.invokestatic 18, 3) := by decide +kernel
theorem dL_line_169 : decode cL_line 169 = .ok (.ifCond .ne 8, 3) := by decide +kernel
theorem dL_line_172 : decode cL_line 172 = .ok (.bipush 20, 2) := by decide +kernel
theorem dL_line_174 : decode cL_line 174 = .ok (.goto 4, 3) := by decide +kernel
theorem dL_line_177 : decode cL_line 177 = .ok (.iconst 4, 1) := by decide +kernel
theorem dL_line_178 : decode cL_line 178 = .ok (.invokestatic 18, 3) := by decide +kernel
theorem dL_line_181 : decode cL_line 181 = .ok (.iadd, 1) := by decide +kernel
theorem dL_line_182 : decode cL_line 182 = .ok (.invokevirtual 30, 3) := by decide +kernel
theorem dL_line_185 : decode cL_line 185 = .ok (.pop, 1) := by decide +kernel
theorem dL_line_186 : decode cL_line 186 = .ok (.aload_n 0, 1) := by decide +kernel
theorem dL_line_187 : decode cL_line 187 = .ok (.iconst 4, 1) := by decide +kernel
theorem dL_line_188 : decode cL_line 188 = .ok (.invokestatic 12, 3) := by decide +kernel
theorem dL_line_191 : decode cL_line 191 = .ok (.iconst 3, 1) := by decide +kernel
theorem dL_line_192 : decode cL_line 192 = .ok (.iload_n 3, 1) := by decide +kernel
theorem dL_line_193 : decode cL_line 193 = .ok (.iadd, 1) := by decide +kernel
theorem dL_line_194 : decode cL_line 194 = .ok (.ishr, 1) := by decide +kernel
theorem dL_line_195 : decode cL_line 195 = .ok (.iconst 2, 1) := by decide +kernel
theorem dL_line_196 : decode cL_line 196 = .ok (.invokestatic 18, 3) := by decide +kernel
theorem dL_line_199 : decode cL_line 199 = .ok (.ifCond .ne 25, 3) := by decide +kernel
theorem dL_line_202 : decode cL_line 202 = .ok (.aload_n 1, 1) := by decide +kernel
theorem dL_line_203 : decode cL_line 203 = .ok (.iconst 1, 1) := by decide +kernel
theorem dL_line_204 : decode cL_line 204 = .ok (.aload_n 0, 1) := by decide +kernel
theorem dL_line_205 : decode cL_line 205 = .ok (.bipush 7, 2) := by decide +kernel
theorem dL_line_207 : decode cL_line 207 = .ok (.invokestatic 12, 3) := by decide +kernel
theorem dL_line_210 : decode cL_line 210 = .ok (.iconst 2, 1) := by decide +kernel
theorem dL_line_211 : decode cL_line 211 = .ok (.iload_n 3, 1) := by decide +kernel
theorem dL_line_212 : decode cL_line 212 = .ok (.imul, 1) := by decide +kernel
theorem dL_line_213 : decode cL_line 213 = .ok (.ishr, 1) := by decide +kernel
theorem dL_line_214 : decode cL_line 214 = .ok (.bipush 6, 2) := by decide +kernel
theorem dL_line_216 : decode cL_line 216 = .ok (.invokestatic 18, 3) := by decide +kernel
theorem dL_line_219 : decode cL_line 219 = .ok (.iadd, 1) := by decide +kernel
theorem dL_line_220 : decode cL_line 220 = .ok (.invokevirtual 33, 3) := by decide +kernel
theorem dL_line_223 : decode cL_line 223 = .ok (.pop, 1) := by decide +kernel
theorem dL_line_224 : decode cL_line 224 = .ok (.iinc 3 1, 3) := by decide +kernel
theorem dL_line_227 : decode cL_line 227 = .ok (.goto (-99), 3) := by decide +kernel
theorem dL_line_230 : decode cL_line 230 = .ok (.aload_n 0, 1) := by decide +kernel
theorem dL_line_231 : decode cL_line 231 = .ok (.bipush 8, 2) := by decide +kernel
theorem dL_line_233 : decode cL_line 233 = .ok (.invokestatic 12, 3) := by decide +kernel
theorem dL_line_236 : decode cL_line 236 = .ok (.bipush 51, 2) := by decide +kernel
theorem dL_line_238 : decode cL_line 238 = .ok (.invokestatic 18, 3) := by decide +kernel
theorem dL_line_241 : decode cL_line 241 = .ok (.istore_n 3, 1) := by decide +kernel
theorem dL_line_242 : decode cL_line 242 = .ok (.iconst 0, 1) := by decide +kernel
theorem dL_line_243 : decode cL_line 243 = .ok (.istore 4, 2) := by decide +kernel
theorem dL_line_245 : decode cL_line 245 = .ok (.iload 4, 2) := by decide +kernel
theorem dL_line_247 : decode cL_line 247 = .ok (.iload_n 3, 1) := by decide +kernel
theorem dL_line_248 : decode cL_line 248 = .ok (.if_icmp .ge 151, 3) := by decide +kernel
theorem dL_line_251 : decode cL_line 251 = .ok (.aload_n 0, 1) := by decide +kernel
theorem dL_line_252 : decode cL_line 252 = .ok (.bipush 9, 2) := by decide +kernel
theorem dL_line_254 : decode cL_line 254 = .ok (.iload 4, 2) := by decide +kernel
theorem dL_line_256 : decode cL_line 256 = .ok (.bipush 6, 2) := by decide +kernel
theorem dL_line_258 : decode cL_line 258 = .ok (.irem, 1) := by decide +kernel
theorem dL_line_259 : decode cL_line 259 = .ok (.iadd, 1) := by decide +kernel
theorem dL_line_260 : decode cL_line 260 = .ok (.invokestatic 12, 3) := by decide +kernel
theorem dL_line_263 : decode cL_line 263 = .ok (.iload 4, 2) := by decide +kernel
theorem dL_line_265 : decode cL_line 265 = .ok (.bipush 6, 2) := by decide +kernel
theorem dL_line_267 : decode cL_line 267 = .ok (.idiv, 1) := by decide +kernel
theorem dL_line_268 : decode cL_line 268 = .ok (.iconst 3, 1) := by decide +kernel
theorem dL_line_269 : decode cL_line 269 = .ok (.imul, 1) := by decide +kernel
theorem dL_line_270 : decode cL_line 270 = .ok (.ishr, 1) := by decide +kernel
theorem dL_line_271 : decode cL_line 271 = .ok (.bipush 29, 2) := by decide +kernel
theorem dL_line_273 : decode cL_line 273 = .ok (.iload 4, 2) := by decide +kernel
theorem dL_line_275 : decode cL_line 275 = .ok (.imul, 1) := by decide +kernel
theorem dL_line_276 : decode cL_line 276 = .ok (.iadd, 1) := by decide +kernel
theorem dL_line_277 : decode cL_line 277 = .ok (.istore 5, 2) := by decide +kernel
theorem dL_line_279 : decode cL_line 279 = .ok (.iload 5, 2) := by decide +kernel
theorem dL_line_281 : decode cL_line 281 = .ok (.iload 5, 2) := by decide +kernel
theorem dL_line_283 : decode cL_line 283 = .ok (.bipush 6, 2) := by decide +kernel
theorem dL_line_285 : decode cL_line 285 = .ok (.ishr, 1) := by decide +kernel
theorem dL_line_286 : decode cL_line 286 = .ok (.iconst 2, 1) := by decide +kernel
theorem dL_line_287 : decode cL_line 287 = .ok (.invokestatic 18, 3) := by decide +kernel
theorem dL_line_290 : decode cL_line 290 = .ok (.ifCond .ne 8, 3) := by decide +kernel
theorem dL_line_293 : decode cL_line 293 = .ok (.bipush 10, 2) := by decide +kernel
theorem dL_line_295 : decode cL_line 295 = .ok (.goto 4, 3) := by decide +kernel
theorem dL_line_298 : decode cL_line 298 = .ok (.iconst 3, 1) := by decide +kernel
theorem dL_line_299 : decode cL_line 299 = .ok (.invokestatic 18, 3) := by decide +kernel
theorem dL_line_302 : decode cL_line 302 = .ok (.istore 6, 2) := by decide +kernel
theorem dL_line_304 : decode cL_line 304 = .ok (.aload_n 1, 1) := by decide +kernel
theorem dL_line_305 : decode cL_line 305 = .ok (.iload 6, 2) := by decide +kernel
theorem dL_line_307 : decode cL_line 307 = .ok (.iload 6, 2) := by decide +kernel
theorem dL_line_309 : decode cL_line 309 = .ok (.iconst 1, 1) := by decide +kernel
theorem dL_line_310 : decode cL_line 310 = .ok (.iadd, 1) := by decide +kernel
theorem dL_line_311 : decode cL_line 311 = .ok (.iload 5, 2) := by decide +kernel
theorem dL_line_313 : decode cL_line 313 = .ok (.iconst 3, 1) := by decide +kernel
theorem dL_line_314 : decode cL_line 314 = .ok (.ishr, 1) := by decide +kernel
theorem dL_line_315 : decode cL_line 315 = .ok (.bipush 9, 2) := by decide +kernel
theorem dL_line_317 : decode cL_line 317 = .ok (.invokestatic 18, 3) := by decide +kernel
theorem dL_line_320 : decode cL_line 320 = .ok (.iadd, 1) := by decide +kernel
theorem dL_line_321 : decode cL_line 321 = .ok (.bipush 10, 2) := by decide +kernel
theorem dL_line_323 : decode cL_line 323 = .ok (.irem, 1) := by decide +kernel
theorem dL_line_324 : decode cL_line 324 = .ok (.invokevirtual 36, 3) := by decide +kernel
theorem dL_line_327 : decode cL_line 327 = .ok (.pop, 1) := by decide +kernel
theorem dL_line_328 : decode cL_line 328 = .ok (.iload 5, 2) := by decide +kernel
theorem dL_line_330 : decode cL_line 330 = .ok (.iconst 5, 1) := by decide +kernel
theorem dL_line_331 : decode cL_line 331 = .ok (.ishr, 1) := by decide +kernel
theorem dL_line_332 : decode cL_line 332 = .ok (.iconst 4, 1) := by decide +kernel
theorem dL_line_333 : decode cL_line 333 = .ok (.invokestatic 18, 3) := by decide +kernel
theorem dL_line_336 : decode cL_line 336 = .ok (.ifCond .ne 20, 3) := by decide +kernel
theorem dL_line_339 : decode cL_line 339 = .ok (.aload_n 1, 1) := by decide +kernel
theorem dL_line_340 : decode cL_line 340 = .ok (.iconst 1, 1) := by decide +kernel
theorem dL_line_341 : decode cL_line 341 = .ok (.iload 5, 2) := by decide +kernel
theorem dL_line_343 : decode cL_line 343 = .ok (.bipush 7, 2) := by decide +kernel
theorem dL_line_345 : decode cL_line 345 = .ok (.ishr, 1) := by decide +kernel
theorem dL_line_346 : decode cL_line 346 = .ok (.bipush 8, 2) := by decide +kernel
theorem dL_line_348 : decode cL_line 348 = .ok (.invokestatic 18, 3) := by decide +kernel
theorem dL_line_351 : decode cL_line 351 = .ok (.iadd, 1) := by decide +kernel
theorem dL_line_352 : decode cL_line 352 = .ok (.invokevirtual 33, 3) := by decide +kernel
theorem dL_line_355 : decode cL_line 355 = .ok (.pop, 1) := by decide +kernel
theorem dL_line_356 : decode cL_line 356 = .ok (.iload 5, 2) := by decide +kernel
theorem dL_line_358 : decode cL_line 358 = .ok (.iconst 4, 1) := by decide +kernel
theorem dL_line_359 : decode cL_line 359 = .ok (.ishr, 1) := by decide +kernel
theorem dL_line_360 : decode cL_line 360 = .ok (.iconst 3, 1) := by decide +kernel
theorem dL_line_361 : decode cL_line 361 = .ok (.invokestatic 18, 3) := by decide +kernel
theorem dL_line_364 : decode cL_line 364 = .ok (.ifCond .ne 29, 3) := by decide +kernel
theorem dL_line_367 : decode cL_line 367 = .ok (.aload_n 1, 1) := by decide +kernel
theorem dL_line_368 : decode cL_line 368 = .ok (.iload 5, 2) := by decide +kernel
theorem dL_line_370 : decode cL_line 370 = .ok (.iconst 2, 1) := by decide +kernel
theorem dL_line_371 : decode cL_line 371 = .ok (.ishr, 1) := by decide +kernel
theorem dL_line_372 : decode cL_line 372 = .ok (.iload 4, 2) := by decide +kernel
theorem dL_line_374 : decode cL_line 374 = .ok (.iconst 1, 1) := by decide +kernel
theorem dL_line_375 : decode cL_line 375 = .ok (.iadd, 1) := by decide +kernel
theorem dL_line_376 : decode cL_line 376 = .ok (.invokestatic 18, 3) := by decide +kernel
theorem dL_line_379 : decode cL_line 379 = .ok (.iload 5, 2) := by decide +kernel
theorem dL_line_381 : decode cL_line 381 = .ok (.bipush 8, 2) := by decide +kernel
theorem dL_line_383 : decode cL_line 383 = .ok (.ishr, 1) := by decide +kernel
theorem dL_line_384 : decode cL_line 384 = .ok (.bipush 10, 2) := by decide +kernel
theorem dL_line_386 : decode cL_line 386 = .ok (.invokestatic 18, 3) := by decide +kernel
theorem dL_line_389 : decode cL_line 389 = .ok (.invokestatic 39, 3) := by decide +kernel
theorem dL_line_392 : decode cL_line 392 = .ok (.pop, 1) := by decide +kernel
theorem dL_line_393 : decode cL_line 393 = .ok (.iinc 4 1, 3) := by decide +kernel
theorem dL_line_396 : decode cL_line 396 = .ok (.goto (-151), 3) := by decide +kernel
theorem dL_line_399 : decode cL_line 399 = .ok (.aload_n 1, 1) := by decide +kernel
theorem dL_line_400 : decode cL_line 400 = .ok (.areturn, 1) := by decide +kernel
theorem dL_change_0 : decode cL_change 0 = .ok (.aload_n 0, 1) := by decide +kernel
theorem dL_change_1 : decode cL_change 1 = .ok (.iload_n 1, 1) := by decide +kernel
theorem dL_change_2 : decode cL_change 2 = .ok (.iload_n 2, 1) := by decide +kernel
theorem dL_change_3 : decode cL_change 3 = .ok (.invokevirtual 43, 3) := by decide +kernel
theorem dL_change_6 : decode cL_change 6 = .ok (.ifCond .eq 7, 3) := by decide +kernel
theorem dL_change_9 : decode cL_change 9 = .ok (.iconst 1, 1) := by decide +kernel
theorem dL_change_10 : decode cL_change 10 = .ok (.goto 4, 3) := by decide +kernel
theorem dL_change_13 : decode cL_change 13 = .ok (.iconst 0, 1) := by decide +kernel
theorem dL_change_14 : decode cL_change 14 = .ok (.ireturn, 1) := by decide +kernel
theorem dL_change_15 : decode cL_change 15 = .ok (.astore_n 3, 1) := by decide +kernel
theorem dL_change_16 : decode cL_change 16 = .ok (.iconst (-1), 1) := by decide +kernel
theorem dL_change_17 : decode cL_change 17 = .ok (.ireturn, 1) := by decide +kernel
theorem dL_law_0 : decode cL_law 0 = .ok (.aload_n 0, 1) := by decide +kernel
theorem dL_law_1 : decode cL_law 1 = .ok (.invokestatic 48, 3) := by decide +kernel
theorem dL_law_4 : decode cL_law 4 = .ok (.astore_n 1, 1) := by decide +kernel
theorem dL_law_5 : decode cL_law 5 = .ok (.iconst 0, 1) := by decide +kernel
theorem dL_law_6 : decode cL_law 6 = .ok (.istore_n 2, 1) := by decide +kernel
theorem dL_law_7 : decode cL_law 7 = .ok (.iload_n 2, 1) := by decide +kernel
theorem dL_law_8 : decode cL_law 8 = .ok (.bipush 50, 2) := by decide +kernel
theorem dL_law_10 : decode cL_law 10 = .ok (.if_icmp .ge 1678, 3) := by decide +kernel
theorem dL_law_13 : decode cL_law 13 = .ok (.aload_n 0, 1) := by decide +kernel
theorem dL_law_14 : decode cL_law 14 = .ok (.iload_n 2, 1) := by decide +kernel
theorem dL_law_15 : decode cL_law 15 = .ok (.bipush 16, 2) := by decide +kernel
theorem dL_law_17 : decode cL_law 17 = .ok (.irem, 1) := by decide +kernel
theorem dL_law_18 : decode cL_law 18 = .ok (.invokestatic 12, 3) := by decide +kernel
theorem dL_law_21 : decode cL_law 21 = .ok (.iload_n 2, 1) := by decide +kernel
theorem dL_law_22 : decode cL_law 22 = .ok (.bipush 16, 2) := by decide +kernel
theorem dL_law_24 : decode cL_law 24 = .ok (.idiv, 1) := by decide +kernel
theorem dL_law_25 : decode cL_law 25 = .ok (.iconst 5, 1) := by decide +kernel
theorem dL_law_26 : decode cL_law 26 = .ok (.imul, 1) := by decide +kernel
theorem dL_law_27 : decode cL_law 27 = .ok (.ishr, 1) := by decide +kernel
theorem dL_law_28 : decode cL_law 28 = .ok (.istore_n 3, 1) := by decide +kernel
theorem dL_law_29 : decode cL_law 29 = .ok (.iload_n 3, 1) := by decide +kernel
theorem dL_law_30 : decode cL_law 30 = .ok (.bipush 8, 2) := by decide +kernel
theorem dL_law_32 : decode cL_law 32 = .ok (.invokestatic 18, 3) := by decide +kernel
theorem dL_law_35 : decode cL_law 35 = .ok (.tableswitch 256 0 4 #[33, 52, 90, 145, 145], 33) := by decide +kernel
theorem dL_law_68 : decode cL_law 68 = .ok (.aload_n 1, 1) := by decide +kernel
theorem dL_law_69 : decode cL_law 69 = .ok (.iload_n 3, 1) := by decide +kernel
theorem dL_law_70 : decode cL_law 70 = .ok (.iconst 4, 1) := by decide +kernel
theorem dL_law_71 : decode cL_law 71 = .ok (.ishr, 1) := by decide +kernel
theorem dL_law_72 : decode cL_law 72 = .ok (.bipush 16, 2) := by decide +kernel
theorem dL_law_74 : decode cL_law 74 = .ok (.invokestatic 18, 3) := by decide +kernel
theorem dL_law_77 : decode cL_law 77 = .ok (.invokevirtual 26, 3) := by decide +kernel
theorem dL_law_80 : decode cL_law 80 = .ok (.bipush 15, 2) := by decide +kernel
theorem dL_law_82 : decode cL_law 82 = .ok (.if_icmp .le 209, 3) := by decide +kernel
theorem dL_law_85 : decode cL_law 85 = .ok (.iconst 0, 1) := by decide +kernel
theorem dL_law_86 : decode cL_law 86 = .ok (.ireturn, 1) := by decide +kernel
theorem dL_law_87 : decode cL_law 87 = .ok (.aload_n 1, 1) := by decide +kernel
theorem dL_law_88 : decode cL_law 88 = .ok (.iload_n 3, 1) := by decide +kernel
theorem dL_law_89 : decode cL_law 89 = .ok (.iconst 4, 1) := by decide +kernel
theorem dL_law_90 : decode cL_law 90 = .ok (.ishr, 1) := by decide +kernel
theorem dL_law_91 : decode cL_law 91 = .ok (.bipush 10, 2) := by decide +kernel
theorem dL_law_93 : decode cL_law 93 = .ok (.invokestatic 18, 3) := by decide +kernel
theorem dL_law_96 : decode cL_law 96 = .ok (.iconst 1, 1) := by decide +kernel
theorem dL_law_97 : decode cL_law 97 = .ok (.iload_n 3, 1) := by decide +kernel
theorem dL_law_98 : decode cL_law 98 = .ok (.bipush 6, 2) := by decide +kernel
theorem dL_law_100 : decode cL_law 100 = .ok (.ishr, 1) := by decide +kernel
theorem dL_law_101 : decode cL_law 101 = .ok (.bipush 9, 2) := by decide +kernel
theorem dL_law_103 : decode cL_law 103 = .ok (.invokestatic 18, 3) := by decide +kernel
theorem dL_law_106 : decode cL_law 106 = .ok (.iadd, 1) := by decide +kernel
theorem dL_law_107 : decode cL_law 107 = .ok (.iload_n 3, 1) := by decide +kernel
theorem dL_law_108 : decode cL_law 108 = .ok (.iconst 5, 1) := by decide +kernel
theorem dL_law_109 : decode cL_law 109 = .ok (.ishr, 1) := by decide +kernel
theorem dL_law_110 : decode cL_law 110 = .ok (.bipush 10, 2) := by decide +kernel
theorem dL_law_112 : decode cL_law 112 = .ok (.invokestatic 18, 3) := by decide +kernel
theorem dL_law_115 : decode cL_law 115 = .ok (.invokevirtual 22, 3) := by decide +kernel
theorem dL_law_118 : decode cL_law 118 = .ok (.bipush 10, 2) := by decide +kernel
theorem dL_law_120 : decode cL_law 120 = .ok (.if_icmp .ge 171, 3) := by decide +kernel
theorem dL_law_123 : decode cL_law 123 = .ok (.iconst 0, 1) := by decide +kernel
theorem dL_law_124 : decode cL_law 124 = .ok (.ireturn, 1) := by decide +kernel
theorem dL_law_125 : decode cL_law 125 = .ok (.iload_n 3, 1) := by decide +kernel
theorem dL_law_126 : decode cL_law 126 = .ok (.iconst 4, 1) := by decide +kernel
theorem dL_law_127 : decode cL_law 127 = .ok (.ishr, 1) := by decide +kernel
theorem dL_law_128 : decode cL_law 128 = .ok (.bipush 10, 2) := by decide +kernel
theorem dL_law_130 : decode cL_law 130 = .ok (.invokestatic 18, 3) := by decide +kernel
theorem dL_law_133 : decode cL_law 133 = .ok (.istore 4, 2) := by decide +kernel
theorem dL_law_135 : decode cL_law 135 = .ok (.aload_n 1, 1) := by decide +kernel
theorem dL_law_136 : decode cL_law 136 = .ok (.iconst 3, 1) := by decide +kernel
theorem dL_law_137 : decode cL_law 137 = .ok (.invokevirtual 52, 3) := by decide +kernel
theorem dL_law_140 : decode cL_law 140 = .ok (.bipush 50, 2) := by decide +kernel
theorem dL_law_142 : decode cL_law 142 = .ok (.if_icmp .ge 149, 3) := by decide +kernel
theorem dL_law_145 : decode cL_law 145 = .ok (.aload_n 1, 1) := by decide +kernel
theorem dL_law_146 : decode cL_law 146 = .ok (.iload 4, 2) := by decide +kernel
theorem dL_law_148 : decode cL_law 148 = .ok (.iload 4, 2) := by decide +kernel
theorem dL_law_150 : decode cL_law 150 = .ok (.iconst 1, 1) := by decide +kernel
theorem dL_law_151 : decode cL_law 151 = .ok (.iadd, 1) := by decide +kernel
theorem dL_law_152 : decode cL_law 152 = .ok (.iload_n 3, 1) := by decide +kernel
theorem dL_law_153 : decode cL_law 153 = .ok (.bipush 6, 2) := by decide +kernel
theorem dL_law_155 : decode cL_law 155 = .ok (.ishr, 1) := by decide +kernel
theorem dL_law_156 : decode cL_law 156 = .ok (.bipush 9, 2) := by decide +kernel
theorem dL_law_158 : decode cL_law 158 = .ok (.invokestatic 18, 3) := by decide +kernel
theorem dL_law_161 : decode cL_law 161 = .ok (.iadd, 1) := by decide +kernel
theorem dL_law_162 : decode cL_law 162 = .ok (.bipush 10, 2) := by decide +kernel
theorem dL_law_164 : decode cL_law 164 = .ok (.irem, 1) := by decide +kernel
theorem dL_law_165 : decode cL_law 165 = .ok (.invokevirtual 36, 3) := by decide +kernel
theorem dL_law_168 : decode cL_law 168 = .ok (.aload_n 1, 1) := by decide +kernel
theorem dL_law_169 : decode cL_law 169 = .ok (.iconst 3, 1) := by decide +kernel
theorem dL_law_170 : decode cL_law 170 = .ok (.invokevirtual 52, 3) := by decide +kernel
theorem dL_law_173 : decode cL_law 173 = .ok (.iconst 1, 1) := by decide +kernel
theorem dL_law_174 : decode cL_law 174 = .ok (.isub, 1) := by decide +kernel
theorem dL_law_175 : decode cL_law 175 = .ok (.if_icmp .eq 116, 3) := by decide +kernel
theorem dL_law_178 : decode cL_law 178 = .ok (.iconst 0, 1) := by decide +kernel
theorem dL_law_179 : decode cL_law 179 = .ok (.ireturn, 1) := by decide +kernel
theorem dL_law_180 : decode cL_law 180 = .ok (.aload_n 1, 1) := by decide +kernel
theorem dL_law_181 : decode cL_law 181 = .ok (.iconst 3, 1) := by decide +kernel
theorem dL_law_182 : decode cL_law 182 = .ok (.invokevirtual 52, 3) := by decide +kernel
theorem dL_law_185 : decode cL_law 185 = .ok (.ifCond .ne 6, 3) := by decide +kernel
theorem dL_law_188 : decode cL_law 188 = .ok (.goto 103, 3) := by decide +kernel
theorem dL_law_191 : decode cL_law 191 = .ok (.iload_n 3, 1) := by decide +kernel
theorem dL_law_192 : decode cL_law 192 = .ok (.iconst 4, 1) := by decide +kernel
theorem dL_law_193 : decode cL_law 193 = .ok (.ishr, 1) := by decide +kernel
theorem dL_law_194 : decode cL_law 194 = .ok (.aload_n 1, 1) := by decide +kernel
theorem dL_law_195 : decode cL_law 195 = .ok (.iconst 3, 1) := by decide +kernel
theorem dL_law_196 : decode cL_law 196 = .ok (.invokevirtual 52, 3) := by decide +kernel
theorem dL_law_199 : decode cL_law 199 = .ok (.invokestatic 18, 3) := by decide +kernel
theorem dL_law_202 : decode cL_law 202 = .ok (.istore 4, 2) := by decide +kernel
theorem dL_law_204 : decode cL_law 204 = .ok (.iload_n 3, 1) := by decide +kernel
theorem dL_law_205 : decode cL_law 205 = .ok (.bipush 6, 2) := by decide +kernel
theorem dL_law_207 : decode cL_law 207 = .ok (.ishr, 1) := by decide +kernel
theorem dL_law_208 : decode cL_law 208 = .ok (.bipush 10, 2) := by decide +kernel
theorem dL_law_210 : decode cL_law 210 = .ok (.invokestatic 18, 3) := by decide +kernel
theorem dL_law_213 : decode cL_law 213 = .ok (.istore 5, 2) := by decide +kernel
theorem dL_law_215 : decode cL_law 215 = .ok (.aload_n 1, 1) := by decide +kernel
theorem dL_law_216 : decode cL_law 216 = .ok (.iload 4, 2) := by decide +kernel
theorem dL_law_218 : decode cL_law 218 = .ok (.iconst 0, 1) := by decide +kernel
theorem dL_law_219 : decode cL_law 219 = .ok (.invokevirtual 55, 3) := by decide +kernel
theorem dL_law_222 : decode cL_law 222 = .ok (.iconst 2, 1) := by decide +kernel
theorem dL_law_223 : decode cL_law 223 = .ok (.if_icmp .ne 19, 3) := by decide +kernel
theorem dL_law_226 : decode cL_law 226 = .ok (.aload_n 1, 1) := by decide +kernel
theorem dL_law_227 : decode cL_law 227 = .ok (.iload 4, 2) := by decide +kernel
theorem dL_law_229 : decode cL_law 229 = .ok (.iconst 1, 1) := by decide +kernel
theorem dL_law_230 : decode cL_law 230 = .ok (.invokevirtual 55, 3) := by decide +kernel
theorem dL_law_233 : decode cL_law 233 = .ok (.iload 5, 2) := by decide +kernel
theorem dL_law_235 : decode cL_law 235 = .ok (.if_icmp .eq 7, 3) := by decide +kernel
theorem dL_law_238 : decode cL_law 238 = .ok (.iconst 1, 1) := by decide +kernel
theorem dL_law_239 : decode cL_law 239 = .ok (.goto 4, 3) := by decide +kernel
theorem dL_law_242 : decode cL_law 242 = .ok (.iconst 0, 1) := by decide +kernel
theorem dL_law_243 : decode cL_law 243 = .ok (.istore 6, 2) := by decide +kernel
theorem dL_law_245 : decode cL_law 245 = .ok (.aload_n 1, 1) := by decide +kernel
theorem dL_law_246 : decode cL_law 246 = .ok (.iload 4, 2) := by decide +kernel
theorem dL_law_248 : decode cL_law 248 = .ok (.iload 5, 2) := by decide +kernel
theorem dL_law_250 : decode cL_law 250 = .ok (.invokestatic 39, 3) := by decide +kernel
theorem dL_law_253 : decode cL_law 253 = .ok (.iload 6, 2) := by decide +kernel
theorem dL_law_255 : decode cL_law 255 = .ok (.ifCond .ne 7, 3) := by decide +kernel
theorem dL_law_258 : decode cL_law 258 = .ok (.iconst (-1), 1) := by decide +kernel
theorem dL_law_259 : decode cL_law 259 = .ok (.goto 27, 3) := by decide +kernel
theorem dL_law_262 : decode cL_law 262 = .ok (.aload_n 1, 1) := by decide +kernel
theorem dL_law_263 : decode cL_law 263 = .ok (.iconst 0, 1) := by decide +kernel
theorem dL_law_264 : decode cL_law 264 = .ok (.invokevirtual 52, 3) := by decide +kernel
theorem dL_law_267 : decode cL_law 267 = .ok (.aload_n 1, 1) := by decide +kernel
theorem dL_law_268 : decode cL_law 268 = .ok (.iload 4, 2) := by decide +kernel
theorem dL_law_270 : decode cL_law 270 = .ok (.bipush 6, 2) := by decide +kernel
theorem dL_law_272 : decode cL_law 272 = .ok (.invokevirtual 55, 3) := by decide +kernel
theorem dL_law_275 : decode cL_law 275 = .ok (.isub, 1) := by decide +kernel
theorem dL_law_276 : decode cL_law 276 = .ok (.bipush 20, 2) := by decide +kernel
theorem dL_law_278 : decode cL_law 278 = .ok (.if_icmp .le 7, 3) := by decide +kernel
theorem dL_law_281 : decode cL_law 281 = .ok (.iconst 0, 1) := by decide +kernel
theorem dL_law_282 : decode cL_law 282 = .ok (.goto 4, 3) := by decide +kernel
theorem dL_law_285 : decode cL_law 285 = .ok (.iconst 1, 1) := by decide +kernel
theorem dL_law_286 : decode cL_law 286 = .ok (.if_icmp .eq 5, 3) := by decide +kernel
theorem dL_law_289 : decode cL_law 289 = .ok (.iconst 0, 1) := by decide +kernel
theorem dL_law_290 : decode cL_law 290 = .ok (.ireturn, 1) := by decide +kernel
theorem dL_law_291 : decode cL_law 291 = .ok (.aload_n 1, 1) := by decide +kernel
theorem dL_law_292 : decode cL_law 292 = .ok (.iconst 3, 1) := by decide +kernel
theorem dL_law_293 : decode cL_law 293 = .ok (.invokevirtual 52, 3) := by decide +kernel
theorem dL_law_296 : decode cL_law 296 = .ok (.istore 4, 2) := by decide +kernel
theorem dL_law_298 : decode cL_law 298 = .ok (.aload_n 1, 1) := by decide +kernel
theorem dL_law_299 : decode cL_law 299 = .ok (.iconst 2, 1) := by decide +kernel
theorem dL_law_300 : decode cL_law 300 = .ok (.invokevirtual 52, 3) := by decide +kernel
theorem dL_law_303 : decode cL_law 303 = .ok (.istore 5, 2) := by decide +kernel
theorem dL_law_305 : decode cL_law 305 = .ok (.aload_n 1, 1) := by decide +kernel
theorem dL_law_306 : decode cL_law 306 = .ok (.iconst 1, 1) := by decide +kernel
theorem dL_law_307 : decode cL_law 307 = .ok (.invokevirtual 52, 3) := by decide +kernel
theorem dL_law_310 : decode cL_law 310 = .ok (.istore 6, 2) := by decide +kernel
theorem dL_law_312 : decode cL_law 312 = .ok (.aload_n 1, 1) := by decide +kernel
theorem dL_law_313 : decode cL_law 313 = .ok (.iconst 0, 1) := by decide +kernel
theorem dL_law_314 : decode cL_law 314 = .ok (.invokevirtual 52, 3) := by decide +kernel
theorem dL_law_317 : decode cL_law 317 = .ok (.istore 7, 2) := by decide +kernel
theorem dL_law_319 : decode cL_law 319 = .ok (.iload 4, 2) := by decide +kernel
theorem dL_law_321 : decode cL_law 321 = .ok (.bipush 7, 2) := by decide +kernel
theorem dL_law_323 : decode cL_law 323 = .ok (.multianewarray 58 2, 4) := by decide +kernel
theorem dL_law_327 : decode cL_law 327 = .ok (.astore 8, 2) := by decide +kernel
theorem dL_law_329 : decode cL_law 329 = .ok (.iconst 0, 1) := by decide +kernel
theorem dL_law_330 : decode cL_law 330 = .ok (.istore 9, 2) := by decide +kernel
theorem dL_law_332 : decode cL_law 332 = .ok (.iload 9, 2) := by decide +kernel
theorem dL_law_334 : decode cL_law 334 = .ok (.iload 4, 2) := by decide +kernel
theorem dL_law_336 : decode cL_law 336 = .ok (.if_icmp .ge 41, 3) := by decide +kernel
theorem dL_law_339 : decode cL_law 339 = .ok (.iconst 0, 1) := by decide +kernel
theorem dL_law_340 : decode cL_law 340 = .ok (.istore 10, 2) := by decide +kernel
theorem dL_law_342 : decode cL_law 342 = .ok (.iload 10, 2) := by decide +kernel
theorem dL_law_344 : decode cL_law 344 = .ok (.bipush 7, 2) := by decide +kernel
theorem dL_law_346 : decode cL_law 346 = .ok (.if_icmp .ge 25, 3) := by decide +kernel
theorem dL_law_349 : decode cL_law 349 = .ok (.aload 8, 2) := by decide +kernel
theorem dL_law_351 : decode cL_law 351 = .ok (.iload 9, 2) := by decide +kernel
theorem dL_law_353 : decode cL_law 353 = .ok (.aaload, 1) := by decide +kernel
theorem dL_law_354 : decode cL_law 354 = .ok (.iload 10, 2) := by decide +kernel
theorem dL_law_356 : decode cL_law 356 = .ok (.aload_n 1, 1) := by decide +kernel
theorem dL_law_357 : decode cL_law 357 = .ok (.iload 9, 2) := by decide +kernel
theorem dL_law_359 : decode cL_law 359 = .ok (.iload 10, 2) := by decide +kernel
theorem dL_law_361 : decode cL_law 361 = .ok (.invokevirtual 55, 3) := by decide +kernel
theorem dL_law_364 : decode cL_law 364 = .ok (.iastore, 1) := by decide +kernel
theorem dL_law_365 : decode cL_law 365 = .ok (.iinc 10 1, 3) := by decide +kernel
theorem dL_law_368 : decode cL_law 368 = .ok (.goto (-26), 3) := by decide +kernel
theorem dL_law_371 : decode cL_law 371 = .ok (.iinc 9 1, 3) := by decide +kernel
theorem dL_law_374 : decode cL_law 374 = .ok (.goto (-42), 3) := by decide +kernel
theorem dL_law_377 : decode cL_law 377 = .ok (.iload 5, 2) := by decide +kernel
theorem dL_law_379 : decode cL_law 379 = .ok (.bipush 6, 2) := by decide +kernel
theorem dL_law_381 : decode cL_law 381 = .ok (.multianewarray 58 2, 4) := by decide +kernel
theorem dL_law_385 : decode cL_law 385 = .ok (.astore 9, 2) := by decide +kernel
theorem dL_law_387 : decode cL_law 387 = .ok (.iconst 0, 1) := by decide +kernel
theorem dL_law_388 : decode cL_law 388 = .ok (.istore 10, 2) := by decide +kernel
theorem dL_law_390 : decode cL_law 390 = .ok (.iload 10, 2) := by decide +kernel
theorem dL_law_392 : decode cL_law 392 = .ok (.iload 5, 2) := by decide +kernel
theorem dL_law_394 : decode cL_law 394 = .ok (.if_icmp .ge 41, 3) := by decide +kernel
theorem dL_law_397 : decode cL_law 397 = .ok (.iconst 0, 1) := by decide +kernel
theorem dL_law_398 : decode cL_law 398 = .ok (.istore 11, 2) := by decide +kernel
theorem dL_law_400 : decode cL_law 400 = .ok (.iload 11, 2) := by decide +kernel
theorem dL_law_402 : decode cL_law 402 = .ok (.bipush 6, 2) := by decide +kernel
theorem dL_law_404 : decode cL_law 404 = .ok (.if_icmp .ge 25, 3) := by decide +kernel
theorem dL_law_407 : decode cL_law 407 = .ok (.aload 9, 2) := by decide +kernel
theorem dL_law_409 : decode cL_law 409 = .ok (.iload 10, 2) := by decide +kernel
theorem dL_law_411 : decode cL_law 411 = .ok (.aaload, 1) := by decide +kernel
theorem dL_law_412 : decode cL_law 412 = .ok (.iload 11, 2) := by decide +kernel
theorem dL_law_414 : decode cL_law 414 = .ok (.aload_n 1, 1) := by decide +kernel
theorem dL_law_415 : decode cL_law 415 = .ok (.iload 10, 2) := by decide +kernel
theorem dL_law_417 : decode cL_law 417 = .ok (.iload 11, 2) := by decide +kernel
theorem dL_law_419 : decode cL_law 419 = .ok (.invokevirtual 60, 3) := by decide +kernel
theorem dL_law_422 : decode cL_law 422 = .ok (.iastore, 1) := by decide +kernel
theorem dL_law_423 : decode cL_law 423 = .ok (.iinc 11 1, 3) := by decide +kernel
theorem dL_law_426 : decode cL_law 426 = .ok (.goto (-26), 3) := by decide +kernel
theorem dL_law_429 : decode cL_law 429 = .ok (.iinc 10 1, 3) := by decide +kernel
theorem dL_law_432 : decode cL_law 432 = .ok (.goto (-42), 3) := by decide +kernel
theorem dL_law_435 : decode cL_law 435 = .ok (.bipush 10, 2) := by decide +kernel
theorem dL_law_437 : decode cL_law 437 = .ok (.newarray .int, 2) := by decide +kernel
theorem dL_law_439 : decode cL_law 439 = .ok (.astore 10, 2) := by decide +kernel
theorem dL_law_441 : decode cL_law 441 = .ok (.bipush 10, 2) := by decide +kernel
theorem dL_law_443 : decode cL_law 443 = .ok (.newarray .int, 2) := by decide +kernel
theorem dL_law_445 : decode cL_law 445 = .ok (.astore 11, 2) := by decide +kernel
theorem dL_law_447 : decode cL_law 447 = .ok (.iconst 0, 1) := by decide +kernel
theorem dL_law_448 : decode cL_law 448 = .ok (.istore 12, 2) := by decide +kernel
theorem dL_law_450 : decode cL_law 450 = .ok (.iload 12, 2) := by decide +kernel
theorem dL_law_452 : decode cL_law 452 = .ok (.bipush 10, 2) := by decide +kernel
theorem dL_law_454 : decode cL_law 454 = .ok (.if_icmp .ge 33, 3) := by decide +kernel
theorem dL_law_457 : decode cL_law 457 = .ok (.aload 10, 2) := by decide +kernel
theorem dL_law_459 : decode cL_law 459 = .ok (.iload 12, 2) := by decide +kernel
theorem dL_law_461 : decode cL_law 461 = .ok (.aload_n 1, 1) := by decide +kernel
theorem dL_law_462 : decode cL_law 462 = .ok (.iload 12, 2) := by decide +kernel
theorem dL_law_464 : decode cL_law 464 = .ok (.iconst 4, 1) := by decide +kernel
theorem dL_law_465 : decode cL_law 465 = .ok (.invokevirtual 63, 3) := by decide +kernel
theorem dL_law_468 : decode cL_law 468 = .ok (.iastore, 1) := by decide +kernel
theorem dL_law_469 : decode cL_law 469 = .ok (.aload 11, 2) := by decide +kernel
theorem dL_law_471 : decode cL_law 471 = .ok (.iload 12, 2) := by decide +kernel
theorem dL_law_473 : decode cL_law 473 = .ok (.aload_n 1, 1) := by decide +kernel
theorem dL_law_474 : decode cL_law 474 = .ok (.iload 12, 2) := by decide +kernel
theorem dL_law_476 : decode cL_law 476 = .ok (.iconst 0, 1) := by decide +kernel
theorem dL_law_477 : decode cL_law 477 = .ok (.invokevirtual 63, 3) := by decide +kernel
theorem dL_law_480 : decode cL_law 480 = .ok (.iastore, 1) := by decide +kernel
theorem dL_law_481 : decode cL_law 481 = .ok (.iinc 12 1, 3) := by decide +kernel
theorem dL_law_484 : decode cL_law 484 = .ok (.goto (-34), 3) := by decide +kernel
theorem dL_law_487 : decode cL_law 487 = .ok (.aload_n 1, 1) := by decide +kernel
theorem dL_law_488 : decode cL_law 488 = .ok (.bipush 7, 2) := by decide +kernel
theorem dL_law_490 : decode cL_law 490 = .ok (.invokevirtual 52, 3) := by decide +kernel
theorem dL_law_493 : decode cL_law 493 = .ok (.istore 12, 2) := by decide +kernel
theorem dL_law_495 : decode cL_law 495 = .ok (.aload_n 1, 1) := by decide +kernel
theorem dL_law_496 : decode cL_law 496 = .ok (.bipush 8, 2) := by decide +kernel
theorem dL_law_498 : decode cL_law 498 = .ok (.invokevirtual 52, 3) := by decide +kernel
theorem dL_law_501 : decode cL_law 501 = .ok (.istore 13, 2) := by decide +kernel
theorem dL_law_503 : decode cL_law 503 = .ok (.aload_n 1, 1) := by decide +kernel
theorem dL_law_504 : decode cL_law 504 = .ok (.invokevirtual 66, 3) := by decide +kernel
theorem dL_law_507 : decode cL_law 507 = .ok (.lstore 14, 2) := by decide +kernel
theorem dL_law_509 : decode cL_law 509 = .ok (.iconst 4, 1) := by decide +kernel
theorem dL_law_510 : decode cL_law 510 = .ok (.newarray .int, 2) := by decide +kernel
theorem dL_law_512 : decode cL_law 512 = .ok (.astore 16, 2) := by decide +kernel
theorem dL_law_514 : decode cL_law 514 = .ok (.iconst 0, 1) := by decide +kernel
theorem dL_law_515 : decode cL_law 515 = .ok (.istore 17, 2) := by decide +kernel
theorem dL_law_517 : decode cL_law 517 = .ok (.iload 17, 2) := by decide +kernel
theorem dL_law_519 : decode cL_law 519 = .ok (.iconst 4, 1) := by decide +kernel
theorem dL_law_520 : decode cL_law 520 = .ok (.if_icmp .ge 21, 3) := by decide +kernel
theorem dL_law_523 : decode cL_law 523 = .ok (.aload 16, 2) := by decide +kernel
theorem dL_law_525 : decode cL_law 525 = .ok (.iload 17, 2) := by decide +kernel
theorem dL_law_527 : decode cL_law 527 = .ok (.aload_n 1, 1) := by decide +kernel
theorem dL_law_528 : decode cL_law 528 = .ok (.iconst 1, 1) := by decide +kernel
theorem dL_law_529 : decode cL_law 529 = .ok (.iload 17, 2) := by decide +kernel
theorem dL_law_531 : decode cL_law 531 = .ok (.invokevirtual 70, 3) := by decide +kernel
theorem dL_law_534 : decode cL_law 534 = .ok (.iastore, 1) := by decide +kernel
theorem dL_law_535 : decode cL_law 535 = .ok (.iinc 17 1, 3) := by decide +kernel
theorem dL_law_538 : decode cL_law 538 = .ok (.goto (-21), 3) := by decide +kernel
theorem dL_law_541 : decode cL_law 541 = .ok (.iload 4, 2) := by decide +kernel
theorem dL_law_543 : decode cL_law 543 = .ok (.ifCond .ne 7, 3) := by decide +kernel
theorem dL_law_546 : decode cL_law 546 = .ok (.iconst 0, 1) := by decide +kernel
theorem dL_law_547 : decode cL_law 547 = .ok (.goto 11, 3) := by decide +kernel
theorem dL_law_550 : decode cL_law 550 = .ok (.iload_n 3, 1) := by decide +kernel
theorem dL_law_551 : decode cL_law 551 = .ok (.iconst 3, 1) := by decide +kernel
theorem dL_law_552 : decode cL_law 552 = .ok (.ishr, 1) := by decide +kernel
theorem dL_law_553 : decode cL_law 553 = .ok (.iload 4, 2) := by decide +kernel
theorem dL_law_555 : decode cL_law 555 = .ok (.invokestatic 18, 3) := by decide +kernel
theorem dL_law_558 : decode cL_law 558 = .ok (.istore 17, 2) := by decide +kernel
theorem dL_law_560 : decode cL_law 560 = .ok (.iload 4, 2) := by decide +kernel
theorem dL_law_562 : decode cL_law 562 = .ok (.ifCond .ne 7, 3) := by decide +kernel
theorem dL_law_565 : decode cL_law 565 = .ok (.iconst (-1), 1) := by decide +kernel
theorem dL_law_566 : decode cL_law 566 = .ok (.goto 9, 3) := by decide +kernel
theorem dL_law_569 : decode cL_law 569 = .ok (.aload_n 1, 1) := by decide +kernel
theorem dL_law_570 : decode cL_law 570 = .ok (.iload 17, 2) := by decide +kernel
theorem dL_law_572 : decode cL_law 572 = .ok (.invokevirtual 73, 3) := by decide +kernel
theorem dL_law_575 : decode cL_law 575 = .ok (.istore 18, 2) := by decide +kernel
theorem dL_law_577 : decode cL_law 577 = .ok (.iload_n 2, 1) := by decide +kernel
theorem dL_law_578 : decode cL_law 578 = .ok (.bipush 8, 2) := by decide +kernel
theorem dL_law_580 : decode cL_law 580 = .ok (.irem, 1) := by decide +kernel
theorem dL_law_581 : decode cL_law 581 = .ok (.ifCond .le 7, 3) := by decide +kernel
theorem dL_law_584 : decode cL_law 584 = .ok (.iconst 0, 1) := by decide +kernel
theorem dL_law_585 : decode cL_law 585 = .ok (.goto 17, 3) := by decide +kernel
theorem dL_law_588 : decode cL_law 588 = .ok (.aload_n 1, 1) := by decide +kernel
theorem dL_law_589 : decode cL_law 589 = .ok (.iconst 1, 1) := by decide +kernel
theorem dL_law_590 : decode cL_law 590 = .ok (.iload_n 3, 1) := by decide +kernel
theorem dL_law_591 : decode cL_law 591 = .ok (.iconst 4, 1) := by decide +kernel
theorem dL_law_592 : decode cL_law 592 = .ok (.ishr, 1) := by decide +kernel
theorem dL_law_593 : decode cL_law 593 = .ok (.bipush 40, 2) := by decide +kernel
theorem dL_law_595 : decode cL_law 595 = .ok (.invokestatic 18, 3) := by decide +kernel
theorem dL_law_598 : decode cL_law 598 = .ok (.iadd, 1) := by decide +kernel
theorem dL_law_599 : decode cL_law 599 = .ok (.invokevirtual 76, 3) := by decide +kernel
theorem dL_law_602 : decode cL_law 602 = .ok (.istore 19, 2) := by decide +kernel
theorem dL_law_604 : decode cL_law 604 = .ok (.aload_n 1, 1) := by decide +kernel
theorem dL_law_605 : decode cL_law 605 = .ok (.invokevirtual 66, 3) := by decide +kernel
theorem dL_law_608 : decode cL_law 608 = .ok (.lload 14, 2) := by decide +kernel
theorem dL_law_610 : decode cL_law 610 = .ok (.lcmp, 1) := by decide +kernel
theorem dL_law_611 : decode cL_law 611 = .ok (.ifCond .ne 49, 3) := by decide +kernel
theorem dL_law_614 : decode cL_law 614 = .ok (.iload 19, 2) := by decide +kernel
theorem dL_law_616 : decode cL_law 616 = .ok (.ifCond .lt 44, 3) := by decide +kernel
theorem dL_law_619 : decode cL_law 619 = .ok (.iload 19, 2) := by decide +kernel
theorem dL_law_621 : decode cL_law 621 = .ok (.bipush 15, 2) := by decide +kernel
theorem dL_law_623 : decode cL_law 623 = .ok (.if_icmp .gt 37, 3) := by decide +kernel
theorem dL_law_626 : decode cL_law 626 = .ok (.iload 4, 2) := by decide +kernel
theorem dL_law_628 : decode cL_law 628 = .ok (.ifCond .le 34, 3) := by decide +kernel
theorem dL_law_631 : decode cL_law 631 = .ok (.iload 18, 2) := by decide +kernel
theorem dL_law_633 : decode cL_law 633 = .ok (.ifCond .ne 7, 3) := by decide +kernel
theorem dL_law_636 : decode cL_law 636 = .ok (.iconst 1, 1) := by decide +kernel
theorem dL_law_637 : decode cL_law 637 = .ok (.goto 4, 3) := by decide +kernel
theorem dL_law_640 : decode cL_law 640 = .ok (.iconst 0, 1) := by decide +kernel
theorem dL_law_641 : decode cL_law 641 = .ok (.aload 8, 2) := by decide +kernel
theorem dL_law_643 : decode cL_law 643 = .ok (.iload 17, 2) := by decide +kernel
theorem dL_law_645 : decode cL_law 645 = .ok (.aaload, 1) := by decide +kernel
