theorem dL_cell_0 : decode cL_cell 0 = .ok (.iload_n 1, 1) := by decide +kernel
theorem dL_cell_1 : decode cL_cell 1 = .ok (.aload_n 0, 1) := by decide +kernel
theorem dL_cell_2 : decode cL_cell 2 = .ok (.arraylength, 1) := by decide +kernel
theorem dL_cell_3 : decode cL_cell 3 = .ok (.if_icmp .ge 9, 3) := by decide +kernel
theorem dL_cell_6 : decode cL_cell 6 = .ok (.aload_n 0, 1) := by decide +kernel
theorem dL_cell_7 : decode cL_cell 7 = .ok (.iload_n 1, 1) := by decide +kernel
theorem dL_cell_8 : decode cL_cell 8 = .ok (.iaload, 1) := by decide +kernel
theorem dL_cell_9 : decode cL_cell 9 = .ok (.goto 11, 3) := by decide +kernel
theorem dL_cell_12 : decode cL_cell 12 = .ok (.ldc 7, 2) := by decide +kernel
theorem dL_cell_14 : decode cL_cell 14 = .ok (.iload_n 1, 1) := by decide +kernel
theorem dL_cell_15 : decode cL_cell 15 = .ok (.imul, 1) := by decide +kernel
theorem dL_cell_16 : decode cL_cell 16 = .ok (.sipush 977, 3) := by decide +kernel
theorem dL_cell_19 : decode cL_cell 19 = .ok (.iadd, 1) := by decide +kernel
theorem dL_cell_20 : decode cL_cell 20 = .ok (.ireturn, 1) := by decide +kernel
theorem dL_change_0 : decode cL_change 0 = .ok (.aload_n 0, 1) := by decide +kernel
theorem dL_change_1 : decode cL_change 1 = .ok (.iconst 1, 1) := by decide +kernel
theorem dL_change_2 : decode cL_change 2 = .ok (.invokevirtual 9, 3) := by decide +kernel
theorem dL_change_5 : decode cL_change 5 = .ok (.istore 5, 2) := by decide +kernel
theorem dL_change_7 : decode cL_change 7 = .ok (.iload_n 3, 1) := by decide +kernel
theorem dL_change_8 : decode cL_change 8 = .ok (.iload 5, 2) := by decide +kernel
theorem dL_change_10 : decode cL_change 10 = .ok (.iconst 1, 1) := by decide +kernel
theorem dL_change_11 : decode cL_change 11 = .ok (.iadd, 1) := by decide +kernel
theorem dL_change_12 : decode cL_change 12 = .ok (.invokestatic 15, 3) := by decide +kernel
theorem dL_change_15 : decode cL_change 15 = .ok (.istore 6, 2) := by decide +kernel
theorem dL_change_17 : decode cL_change 17 = .ok (.iload_n 2, 1) := by decide +kernel
theorem dL_change_18 : decode cL_change 18 = .ok (.tableswitch 312 0 15 #[78, 78, 78, 110, 110, 117, 124, 134, 168, 220, 235, 235, 242, 242, 282, 295], 78) := by decide +kernel
theorem dL_change_96 : decode cL_change 96 = .ok (.aload_n 0, 1) := by decide +kernel
theorem dL_change_97 : decode cL_change 97 = .ok (.iload_n 3, 1) := by decide +kernel
theorem dL_change_98 : decode cL_change 98 = .ok (.sipush 256, 3) := by decide +kernel
theorem dL_change_101 : decode cL_change 101 = .ok (.invokestatic 15, 3) := by decide +kernel
theorem dL_change_104 : decode cL_change 104 = .ok (.invokevirtual 21, 3) := by decide +kernel
theorem dL_change_107 : decode cL_change 107 = .ok (.istore 7, 2) := by decide +kernel
theorem dL_change_109 : decode cL_change 109 = .ok (.iload 7, 2) := by decide +kernel
theorem dL_change_111 : decode cL_change 111 = .ok (.ifCond .lt 14, 3) := by decide +kernel
theorem dL_change_114 : decode cL_change 114 = .ok (.aload_n 1, 1) := by decide +kernel
theorem dL_change_115 : decode cL_change 115 = .ok (.iload 7, 2) := by decide +kernel
theorem dL_change_117 : decode cL_change 117 = .ok (.iload_n 3, 1) := by decide +kernel
theorem dL_change_118 : decode cL_change 118 = .ok (.sipush 256, 3) := by decide +kernel
theorem dL_change_121 : decode cL_change 121 = .ok (.invokestatic 15, 3) := by decide +kernel
theorem dL_change_124 : decode cL_change 124 = .ok (.iastore, 1) := by decide +kernel
theorem dL_change_125 : decode cL_change 125 = .ok (.iload 7, 2) := by decide +kernel
theorem dL_change_127 : decode cL_change 127 = .ok (.ireturn, 1) := by decide +kernel
theorem dL_change_128 : decode cL_change 128 = .ok (.aload_n 0, 1) := by decide +kernel
theorem dL_change_129 : decode cL_change 129 = .ok (.iload 6, 2) := by decide +kernel
theorem dL_change_131 : decode cL_change 131 = .ok (.invokevirtual 24, 3) := by decide +kernel
theorem dL_change_134 : decode cL_change 134 = .ok (.ireturn, 1) := by decide +kernel
theorem dL_change_135 : decode cL_change 135 = .ok (.aload_n 0, 1) := by decide +kernel
theorem dL_change_136 : decode cL_change 136 = .ok (.iload 6, 2) := by decide +kernel
theorem dL_change_138 : decode cL_change 138 = .ok (.invokevirtual 27, 3) := by decide +kernel
theorem dL_change_141 : decode cL_change 141 = .ok (.ireturn, 1) := by decide +kernel
theorem dL_change_142 : decode cL_change 142 = .ok (.aload_n 0, 1) := by decide +kernel
theorem dL_change_143 : decode cL_change 143 = .ok (.iload_n 3, 1) := by decide +kernel
theorem dL_change_144 : decode cL_change 144 = .ok (.iconst 2, 1) := by decide +kernel
theorem dL_change_145 : decode cL_change 145 = .ok (.invokestatic 15, 3) := by decide +kernel
theorem dL_change_148 : decode cL_change 148 = .ok (.invokevirtual 30, 3) := by decide +kernel
theorem dL_change_151 : decode cL_change 151 = .ok (.ireturn, 1) := by decide +kernel
theorem dL_change_152 : decode cL_change 152 = .ok (.aload_n 0, 1) := by decide +kernel
theorem dL_change_153 : decode cL_change 153 = .ok (.iload 4, 2) := by decide +kernel
theorem dL_change_155 : decode cL_change 155 = .ok (.iconst 2, 1) := by decide +kernel
theorem dL_change_156 : decode cL_change 156 = .ok (.invokestatic 15, 3) := by decide +kernel
theorem dL_change_159 : decode cL_change 159 = .ok (.iload 6, 2) := by decide +kernel
theorem dL_change_161 : decode cL_change 161 = .ok (.iload 4, 2) := by decide +kernel
theorem dL_change_163 : decode cL_change 163 = .ok (.iconst 4, 1) := by decide +kernel
theorem dL_change_164 : decode cL_change 164 = .ok (.ishr, 1) := by decide +kernel
theorem dL_change_165 : decode cL_change 165 = .ok (.sipush 256, 3) := by decide +kernel
theorem dL_change_168 : decode cL_change 168 = .ok (.invokestatic 15, 3) := by decide +kernel
theorem dL_change_171 : decode cL_change 171 = .ok (.iload 4, 2) := by decide +kernel
theorem dL_change_173 : decode cL_change 173 = .ok (.bipush 12, 2) := by decide +kernel
theorem dL_change_175 : decode cL_change 175 = .ok (.ishr, 1) := by decide +kernel
theorem dL_change_176 : decode cL_change 176 = .ok (.sipush 257, 3) := by decide +kernel
theorem dL_change_179 : decode cL_change 179 = .ok (.invokestatic 15, 3) := by decide +kernel
theorem dL_change_182 : decode cL_change 182 = .ok (.invokevirtual 33, 3) := by decide +kernel
theorem dL_change_185 : decode cL_change 185 = .ok (.ireturn, 1) := by decide +kernel
theorem dL_change_186 : decode cL_change 186 = .ok (.iload 4, 2) := by decide +kernel
theorem dL_change_188 : decode cL_change 188 = .ok (.iconst 4, 1) := by decide +kernel
theorem dL_change_189 : decode cL_change 189 = .ok (.ishr, 1) := by decide +kernel
theorem dL_change_190 : decode cL_change 190 = .ok (.sipush 256, 3) := by decide +kernel
theorem dL_change_193 : decode cL_change 193 = .ok (.invokestatic 15, 3) := by decide +kernel
theorem dL_change_196 : decode cL_change 196 = .ok (.istore 8, 2) := by decide +kernel
theorem dL_change_198 : decode cL_change 198 = .ok (.aload_n 0, 1) := by decide +kernel
theorem dL_change_199 : decode cL_change 199 = .ok (.iload 4, 2) := by decide +kernel
theorem dL_change_201 : decode cL_change 201 = .ok (.iconst 2, 1) := by decide +kernel
theorem dL_change_202 : decode cL_change 202 = .ok (.invokestatic 15, 3) := by decide +kernel
theorem dL_change_205 : decode cL_change 205 = .ok (.iload 6, 2) := by decide +kernel
theorem dL_change_207 : decode cL_change 207 = .ok (.iload 8, 2) := by decide +kernel
theorem dL_change_209 : decode cL_change 209 = .ok (.iload 6, 2) := by decide +kernel
theorem dL_change_211 : decode cL_change 211 = .ok (.iload 5, 2) := by decide +kernel
theorem dL_change_213 : decode cL_change 213 = .ok (.if_icmp .ge 20, 3) := by decide +kernel
theorem dL_change_216 : decode cL_change 216 = .ok (.aload_n 0, 1) := by decide +kernel
theorem dL_change_217 : decode cL_change 217 = .ok (.iload 4, 2) := by decide +kernel
theorem dL_change_219 : decode cL_change 219 = .ok (.iconst 2, 1) := by decide +kernel
theorem dL_change_220 : decode cL_change 220 = .ok (.invokestatic 15, 3) := by decide +kernel
theorem dL_change_223 : decode cL_change 223 = .ok (.iload 6, 2) := by decide +kernel
theorem dL_change_225 : decode cL_change 225 = .ok (.iload 8, 2) := by decide +kernel
theorem dL_change_227 : decode cL_change 227 = .ok (.invokevirtual 37, 3) := by decide +kernel
theorem dL_change_230 : decode cL_change 230 = .ok (.goto 4, 3) := by decide +kernel
theorem dL_change_233 : decode cL_change 233 = .ok (.iconst 0, 1) := by decide +kernel
theorem dL_change_234 : decode cL_change 234 = .ok (.invokevirtual 33, 3) := by decide +kernel
theorem dL_change_237 : decode cL_change 237 = .ok (.ireturn, 1) := by decide +kernel
theorem dL_change_238 : decode cL_change 238 = .ok (.aload_n 0, 1) := by decide +kernel
theorem dL_change_239 : decode cL_change 239 = .ok (.iload 4, 2) := by decide +kernel
theorem dL_change_241 : decode cL_change 241 = .ok (.iconst 2, 1) := by decide +kernel
theorem dL_change_242 : decode cL_change 242 = .ok (.invokestatic 15, 3) := by decide +kernel
theorem dL_change_245 : decode cL_change 245 = .ok (.iload 6, 2) := by decide +kernel
theorem dL_change_247 : decode cL_change 247 = .ok (.iconst 0, 1) := by decide +kernel
theorem dL_change_248 : decode cL_change 248 = .ok (.iconst 0, 1) := by decide +kernel
theorem dL_change_249 : decode cL_change 249 = .ok (.invokevirtual 33, 3) := by decide +kernel
theorem dL_change_252 : decode cL_change 252 = .ok (.ireturn, 1) := by decide +kernel
theorem dL_change_253 : decode cL_change 253 = .ok (.aload_n 0, 1) := by decide +kernel
theorem dL_change_254 : decode cL_change 254 = .ok (.iload 6, 2) := by decide +kernel
theorem dL_change_256 : decode cL_change 256 = .ok (.invokevirtual 41, 3) := by decide +kernel
theorem dL_change_259 : decode cL_change 259 = .ok (.ireturn, 1) := by decide +kernel
theorem dL_change_260 : decode cL_change 260 = .ok (.aload_n 0, 1) := by decide +kernel
theorem dL_change_261 : decode cL_change 261 = .ok (.iload 4, 2) := by decide +kernel
theorem dL_change_263 : decode cL_change 263 = .ok (.iconst 2, 1) := by decide +kernel
theorem dL_change_264 : decode cL_change 264 = .ok (.invokestatic 15, 3) := by decide +kernel
theorem dL_change_267 : decode cL_change 267 = .ok (.iload 6, 2) := by decide +kernel
theorem dL_change_269 : decode cL_change 269 = .ok (.iload 6, 2) := by decide +kernel
theorem dL_change_271 : decode cL_change 271 = .ok (.iload 5, 2) := by decide +kernel
theorem dL_change_273 : decode cL_change 273 = .ok (.if_icmp .ge 22, 3) := by decide +kernel
theorem dL_change_276 : decode cL_change 276 = .ok (.aload_n 0, 1) := by decide +kernel
theorem dL_change_277 : decode cL_change 277 = .ok (.iload 6, 2) := by decide +kernel
theorem dL_change_279 : decode cL_change 279 = .ok (.iconst 0, 1) := by decide +kernel
theorem dL_change_280 : decode cL_change 280 = .ok (.invokevirtual 44, 3) := by decide +kernel
theorem dL_change_283 : decode cL_change 283 = .ok (.iload 4, 2) := by decide +kernel
theorem dL_change_285 : decode cL_change 285 = .ok (.iconst 4, 1) := by decide +kernel
theorem dL_change_286 : decode cL_change 286 = .ok (.ishr, 1) := by decide +kernel
theorem dL_change_287 : decode cL_change 287 = .ok (.iconst 4, 1) := by decide +kernel
theorem dL_change_288 : decode cL_change 288 = .ok (.invokestatic 15, 3) := by decide +kernel
theorem dL_change_291 : decode cL_change 291 = .ok (.isub, 1) := by decide +kernel
theorem dL_change_292 : decode cL_change 292 = .ok (.goto 4, 3) := by decide +kernel
theorem dL_change_295 : decode cL_change 295 = .ok (.iconst 1, 1) := by decide +kernel
theorem dL_change_296 : decode cL_change 296 = .ok (.invokevirtual 47, 3) := by decide +kernel
theorem dL_change_299 : decode cL_change 299 = .ok (.ireturn, 1) := by decide +kernel
theorem dL_change_300 : decode cL_change 300 = .ok (.aload_n 0, 1) := by decide +kernel
theorem dL_change_301 : decode cL_change 301 = .ok (.iconst 1, 1) := by decide +kernel
theorem dL_change_302 : decode cL_change 302 = .ok (.iload_n 3, 1) := by decide +kernel
theorem dL_change_303 : decode cL_change 303 = .ok (.bipush 9, 2) := by decide +kernel
theorem dL_change_305 : decode cL_change 305 = .ok (.invokestatic 15, 3) := by decide +kernel
theorem dL_change_308 : decode cL_change 308 = .ok (.iadd, 1) := by decide +kernel
theorem dL_change_309 : decode cL_change 309 = .ok (.invokevirtual 50, 3) := by decide +kernel
theorem dL_change_312 : decode cL_change 312 = .ok (.ireturn, 1) := by decide +kernel
theorem dL_change_313 : decode cL_change 313 = .ok (.aload_n 0, 1) := by decide +kernel
theorem dL_change_314 : decode cL_change 314 = .ok (.iload_n 3, 1) := by decide +kernel
theorem dL_change_315 : decode cL_change 315 = .ok (.iconst 3, 1) := by decide +kernel
theorem dL_change_316 : decode cL_change 316 = .ok (.invokestatic 15, 3) := by decide +kernel
theorem dL_change_319 : decode cL_change 319 = .ok (.iload 4, 2) := by decide +kernel
theorem dL_change_321 : decode cL_change 321 = .ok (.bipush 9, 2) := by decide +kernel
theorem dL_change_323 : decode cL_change 323 = .ok (.invokestatic 15, 3) := by decide +kernel
theorem dL_change_326 : decode cL_change 326 = .ok (.invokevirtual 53, 3) := by decide +kernel
theorem dL_change_329 : decode cL_change 329 = .ok (.ireturn, 1) := by decide +kernel
theorem dL_change_330 : decode cL_change 330 = .ok (.aload_n 0, 1) := by decide +kernel
theorem dL_change_331 : decode cL_change 331 = .ok (.iload_n 3, 1) := by decide +kernel
theorem dL_change_332 : decode cL_change 332 = .ok (.sipush 10000, 3) := by decide +kernel
theorem dL_change_335 : decode cL_change 335 = .ok (.invokestatic 15, 3) := by decide +kernel
theorem dL_change_338 : decode cL_change 338 = .ok (.invokevirtual 56, 3) := by decide +kernel
theorem dL_change_341 : decode cL_change 341 = .ok (.ireturn, 1) := by decide +kernel
theorem dL_holds_0 : decode cL_holds 0 = .ok (.aload_n 0, 1) := by decide +kernel
theorem dL_holds_1 : decode cL_holds 1 = .ok (.iconst 1, 1) := by decide +kernel
theorem dL_holds_2 : decode cL_holds 2 = .ok (.invokevirtual 9, 3) := by decide +kernel
theorem dL_holds_5 : decode cL_holds 5 = .ok (.istore_n 2, 1) := by decide +kernel
theorem dL_holds_6 : decode cL_holds 6 = .ok (.iconst 0, 1) := by decide +kernel
theorem dL_holds_7 : decode cL_holds 7 = .ok (.istore_n 3, 1) := by decide +kernel
theorem dL_holds_8 : decode cL_holds 8 = .ok (.iconst 0, 1) := by decide +kernel
theorem dL_holds_9 : decode cL_holds 9 = .ok (.istore 4, 2) := by decide +kernel
theorem dL_holds_11 : decode cL_holds 11 = .ok (.aload_n 0, 1) := by decide +kernel
theorem dL_holds_12 : decode cL_holds 12 = .ok (.iload_n 2, 1) := by decide +kernel
theorem dL_holds_13 : decode cL_holds 13 = .ok (.iconst 0, 1) := by decide +kernel
theorem dL_holds_14 : decode cL_holds 14 = .ok (.invokevirtual 44, 3) := by decide +kernel
theorem dL_holds_17 : decode cL_holds 17 = .ok (.iconst (-1), 1) := by decide +kernel
theorem dL_holds_18 : decode cL_holds 18 = .ok (.if_icmp .ne 25, 3) := by decide +kernel
theorem dL_holds_21 : decode cL_holds 21 = .ok (.aload_n 0, 1) := by decide +kernel
theorem dL_holds_22 : decode cL_holds 22 = .ok (.iload_n 2, 1) := by decide +kernel
theorem dL_holds_23 : decode cL_holds 23 = .ok (.invokevirtual 24, 3) := by decide +kernel
theorem dL_holds_26 : decode cL_holds 26 = .ok (.iconst (-1), 1) := by decide +kernel
theorem dL_holds_27 : decode cL_holds 27 = .ok (.if_icmp .ne 16, 3) := by decide +kernel
theorem dL_holds_30 : decode cL_holds 30 = .ok (.aload_n 0, 1) := by decide +kernel
theorem dL_holds_31 : decode cL_holds 31 = .ok (.iload_n 2, 1) := by decide +kernel
theorem dL_holds_32 : decode cL_holds 32 = .ok (.invokevirtual 81, 3) := by decide +kernel
theorem dL_holds_35 : decode cL_holds 35 = .ok (.iconst (-1), 1) := by decide +kernel
theorem dL_holds_36 : decode cL_holds 36 = .ok (.if_icmp .ne 7, 3) := by decide +kernel
theorem dL_holds_39 : decode cL_holds 39 = .ok (.iconst 1, 1) := by decide +kernel
theorem dL_holds_40 : decode cL_holds 40 = .ok (.goto 4, 3) := by decide +kernel
theorem dL_holds_43 : decode cL_holds 43 = .ok (.iconst 0, 1) := by decide +kernel
theorem dL_holds_44 : decode cL_holds 44 = .ok (.istore 5, 2) := by decide +kernel
theorem dL_holds_46 : decode cL_holds 46 = .ok (.iconst 0, 1) := by decide +kernel
theorem dL_holds_47 : decode cL_holds 47 = .ok (.istore 6, 2) := by decide +kernel
theorem dL_holds_49 : decode cL_holds 49 = .ok (.iload 6, 2) := by decide +kernel
theorem dL_holds_51 : decode cL_holds 51 = .ok (.iload_n 2, 1) := by decide +kernel
theorem dL_holds_52 : decode cL_holds 52 = .ok (.if_icmp .ge 138, 3) := by decide +kernel
theorem dL_holds_55 : decode cL_holds 55 = .ok (.iload 5, 2) := by decide +kernel
theorem dL_holds_57 : decode cL_holds 57 = .ok (.ifCond .eq 133, 3) := by decide +kernel
theorem dL_holds_60 : decode cL_holds 60 = .ok (.aload_n 0, 1) := by decide +kernel
theorem dL_holds_61 : decode cL_holds 61 = .ok (.iconst 0, 1) := by decide +kernel
theorem dL_holds_62 : decode cL_holds 62 = .ok (.iload 6, 2) := by decide +kernel
theorem dL_holds_64 : decode cL_holds 64 = .ok (.invokestatic 84, 3) := by decide +kernel
theorem dL_holds_67 : decode cL_holds 67 = .ok (.ifCond .eq 30, 3) := by decide +kernel
theorem dL_holds_70 : decode cL_holds 70 = .ok (.aload_n 0, 1) := by decide +kernel
theorem dL_holds_71 : decode cL_holds 71 = .ok (.iconst 1, 1) := by decide +kernel
theorem dL_holds_72 : decode cL_holds 72 = .ok (.iload 6, 2) := by decide +kernel
theorem dL_holds_74 : decode cL_holds 74 = .ok (.invokestatic 84, 3) := by decide +kernel
theorem dL_holds_77 : decode cL_holds 77 = .ok (.ifCond .eq 20, 3) := by decide +kernel
theorem dL_holds_80 : decode cL_holds 80 = .ok (.aload_n 0, 1) := by decide +kernel
theorem dL_holds_81 : decode cL_holds 81 = .ok (.iload 6, 2) := by decide +kernel
theorem dL_holds_83 : decode cL_holds 83 = .ok (.aload_n 1, 1) := by decide +kernel
theorem dL_holds_84 : decode cL_holds 84 = .ok (.iload 6, 2) := by decide +kernel
theorem dL_holds_86 : decode cL_holds 86 = .ok (.iaload, 1) := by decide +kernel
theorem dL_holds_87 : decode cL_holds 87 = .ok (.invokestatic 87, 3) := by decide +kernel
theorem dL_holds_90 : decode cL_holds 90 = .ok (.ifCond .eq 7, 3) := by decide +kernel
theorem dL_holds_93 : decode cL_holds 93 = .ok (.iconst 1, 1) := by decide +kernel
theorem dL_holds_94 : decode cL_holds 94 = .ok (.goto 4, 3) := by decide +kernel
theorem dL_holds_97 : decode cL_holds 97 = .ok (.iconst 0, 1) := by decide +kernel
theorem dL_holds_98 : decode cL_holds 98 = .ok (.istore 5, 2) := by decide +kernel
theorem dL_holds_100 : decode cL_holds 100 = .ok (.iload_n 3, 1) := by decide +kernel
theorem dL_holds_101 : decode cL_holds 101 = .ok (.iconst 1, 1) := by decide +kernel
theorem dL_holds_102 : decode cL_holds 102 = .ok (.aload_n 0, 1) := by decide +kernel
theorem dL_holds_103 : decode cL_holds 103 = .ok (.iload 6, 2) := by decide +kernel
theorem dL_holds_105 : decode cL_holds 105 = .ok (.iconst 1, 1) := by decide +kernel
theorem dL_holds_106 : decode cL_holds 106 = .ok (.invokevirtual 44, 3) := by decide +kernel
theorem dL_holds_109 : decode cL_holds 109 = .ok (.iadd, 1) := by decide +kernel
theorem dL_holds_110 : decode cL_holds 110 = .ok (.iadd, 1) := by decide +kernel
theorem dL_holds_111 : decode cL_holds 111 = .ok (.istore_n 3, 1) := by decide +kernel
theorem dL_holds_112 : decode cL_holds 112 = .ok (.iload 4, 2) := by decide +kernel
theorem dL_holds_114 : decode cL_holds 114 = .ok (.aload_n 0, 1) := by decide +kernel
theorem dL_holds_115 : decode cL_holds 115 = .ok (.iload 6, 2) := by decide +kernel
theorem dL_holds_117 : decode cL_holds 117 = .ok (.iconst 4, 1) := by decide +kernel
theorem dL_holds_118 : decode cL_holds 118 = .ok (.invokevirtual 44, 3) := by decide +kernel
theorem dL_holds_121 : decode cL_holds 121 = .ok (.iadd, 1) := by decide +kernel
theorem dL_holds_122 : decode cL_holds 122 = .ok (.istore 4, 2) := by decide +kernel
theorem dL_holds_124 : decode cL_holds 124 = .ok (.iload 5, 2) := by decide +kernel
theorem dL_holds_126 : decode cL_holds 126 = .ok (.ifCond .eq 55, 3) := by decide +kernel
theorem dL_holds_129 : decode cL_holds 129 = .ok (.aload_n 0, 1) := by decide +kernel
theorem dL_holds_130 : decode cL_holds 130 = .ok (.iconst 2, 1) := by decide +kernel
theorem dL_holds_131 : decode cL_holds 131 = .ok (.invokevirtual 9, 3) := by decide +kernel
theorem dL_holds_134 : decode cL_holds 134 = .ok (.iload 6, 2) := by decide +kernel
theorem dL_holds_136 : decode cL_holds 136 = .ok (.ishr, 1) := by decide +kernel
theorem dL_holds_137 : decode cL_holds 137 = .ok (.iconst 1, 1) := by decide +kernel
theorem dL_holds_138 : decode cL_holds 138 = .ok (.iand, 1) := by decide +kernel
theorem dL_holds_139 : decode cL_holds 139 = .ok (.aload_n 0, 1) := by decide +kernel
theorem dL_holds_140 : decode cL_holds 140 = .ok (.iload 6, 2) := by decide +kernel
theorem dL_holds_142 : decode cL_holds 142 = .ok (.iconst 3, 1) := by decide +kernel
theorem dL_holds_143 : decode cL_holds 143 = .ok (.invokevirtual 44, 3) := by decide +kernel
theorem dL_holds_146 : decode cL_holds 146 = .ok (.ifCond .le 7, 3) := by decide +kernel
theorem dL_holds_149 : decode cL_holds 149 = .ok (.iconst 1, 1) := by decide +kernel
theorem dL_holds_150 : decode cL_holds 150 = .ok (.goto 4, 3) := by decide +kernel
theorem dL_holds_153 : decode cL_holds 153 = .ok (.iconst 0, 1) := by decide +kernel
theorem dL_holds_154 : decode cL_holds 154 = .ok (.if_icmp .ne 27, 3) := by decide +kernel
theorem dL_holds_157 : decode cL_holds 157 = .ok (.aload_n 0, 1) := by decide +kernel
theorem dL_holds_158 : decode cL_holds 158 = .ok (.iconst 3, 1) := by decide +kernel
theorem dL_holds_159 : decode cL_holds 159 = .ok (.invokevirtual 9, 3) := by decide +kernel
theorem dL_holds_162 : decode cL_holds 162 = .ok (.iload 6, 2) := by decide +kernel
theorem dL_holds_164 : decode cL_holds 164 = .ok (.ishr, 1) := by decide +kernel
theorem dL_holds_165 : decode cL_holds 165 = .ok (.iconst 1, 1) := by decide +kernel
theorem dL_holds_166 : decode cL_holds 166 = .ok (.iand, 1) := by decide +kernel
theorem dL_holds_167 : decode cL_holds 167 = .ok (.aload_n 0, 1) := by decide +kernel
theorem dL_holds_168 : decode cL_holds 168 = .ok (.iload 6, 2) := by decide +kernel
theorem dL_holds_170 : decode cL_holds 170 = .ok (.iconst 5, 1) := by decide +kernel
theorem dL_holds_171 : decode cL_holds 171 = .ok (.invokevirtual 44, 3) := by decide +kernel
theorem dL_holds_174 : decode cL_holds 174 = .ok (.if_icmp .ne 7, 3) := by decide +kernel
theorem dL_holds_177 : decode cL_holds 177 = .ok (.iconst 1, 1) := by decide +kernel
theorem dL_holds_178 : decode cL_holds 178 = .ok (.goto 4, 3) := by decide +kernel
theorem dL_holds_181 : decode cL_holds 181 = .ok (.iconst 0, 1) := by decide +kernel
theorem dL_holds_182 : decode cL_holds 182 = .ok (.istore 5, 2) := by decide +kernel
theorem dL_holds_184 : decode cL_holds 184 = .ok (.iinc 6 1, 3) := by decide +kernel
theorem dL_holds_187 : decode cL_holds 187 = .ok (.goto (-138), 3) := by decide +kernel
theorem dL_holds_190 : decode cL_holds 190 = .ok (.iload 5, 2) := by decide +kernel
theorem dL_holds_192 : decode cL_holds 192 = .ok (.ifCond .eq 55, 3) := by decide +kernel
theorem dL_holds_195 : decode cL_holds 195 = .ok (.aload_n 0, 1) := by decide +kernel
theorem dL_holds_196 : decode cL_holds 196 = .ok (.bipush 6, 2) := by decide +kernel
theorem dL_holds_198 : decode cL_holds 198 = .ok (.invokevirtual 9, 3) := by decide +kernel
theorem dL_holds_201 : decode cL_holds 201 = .ok (.aload_n 0, 1) := by decide +kernel
theorem dL_holds_202 : decode cL_holds 202 = .ok (.bipush 7, 2) := by decide +kernel
theorem dL_holds_204 : decode cL_holds 204 = .ok (.invokevirtual 9, 3) := by decide +kernel
theorem dL_holds_207 : decode cL_holds 207 = .ok (.isub, 1) := by decide +kernel
theorem dL_holds_208 : decode cL_holds 208 = .ok (.iload_n 3, 1) := by decide +kernel
theorem dL_holds_209 : decode cL_holds 209 = .ok (.if_icmp .ne 38, 3) := by decide +kernel
theorem dL_holds_212 : decode cL_holds 212 = .ok (.aload_n 0, 1) := by decide +kernel
theorem dL_holds_213 : decode cL_holds 213 = .ok (.bipush 8, 2) := by decide +kernel
theorem dL_holds_215 : decode cL_holds 215 = .ok (.invokevirtual 9, 3) := by decide +kernel
theorem dL_holds_218 : decode cL_holds 218 = .ok (.iload 4, 2) := by decide +kernel
theorem dL_holds_220 : decode cL_holds 220 = .ok (.if_icmp .ne 27, 3) := by decide +kernel
theorem dL_holds_223 : decode cL_holds 223 = .ok (.aload_n 0, 1) := by decide +kernel
theorem dL_holds_224 : decode cL_holds 224 = .ok (.iconst 2, 1) := by decide +kernel
theorem dL_holds_225 : decode cL_holds 225 = .ok (.invokevirtual 9, 3) := by decide +kernel
theorem dL_holds_228 : decode cL_holds 228 = .ok (.iload_n 2, 1) := by decide +kernel
theorem dL_holds_229 : decode cL_holds 229 = .ok (.ishr, 1) := by decide +kernel
theorem dL_holds_230 : decode cL_holds 230 = .ok (.ifCond .ne 17, 3) := by decide +kernel
theorem dL_holds_233 : decode cL_holds 233 = .ok (.aload_n 0, 1) := by decide +kernel
theorem dL_holds_234 : decode cL_holds 234 = .ok (.iconst 3, 1) := by decide +kernel
theorem dL_holds_235 : decode cL_holds 235 = .ok (.invokevirtual 9, 3) := by decide +kernel
theorem dL_holds_238 : decode cL_holds 238 = .ok (.iload_n 2, 1) := by decide +kernel
theorem dL_holds_239 : decode cL_holds 239 = .ok (.ishr, 1) := by decide +kernel
theorem dL_holds_240 : decode cL_holds 240 = .ok (.ifCond .ne 7, 3) := by decide +kernel
theorem dL_holds_243 : decode cL_holds 243 = .ok (.iconst 1, 1) := by decide +kernel
theorem dL_holds_244 : decode cL_holds 244 = .ok (.goto 4, 3) := by decide +kernel
theorem dL_holds_247 : decode cL_holds 247 = .ok (.iconst 0, 1) := by decide +kernel
theorem dL_holds_248 : decode cL_holds 248 = .ok (.ireturn, 1) := by decide +kernel
theorem dL_isCaught_0 : decode cL_isCaught 0 = .ok (.aload_n 0, 1) := by decide +kernel
theorem dL_isCaught_1 : decode cL_isCaught 1 = .ok (.iconst 1, 1) := by decide +kernel
theorem dL_isCaught_2 : decode cL_isCaught 2 = .ok (.iload_n 1, 1) := by decide +kernel
theorem dL_isCaught_3 : decode cL_isCaught 3 = .ok (.isub, 1) := by decide +kernel
theorem dL_isCaught_4 : decode cL_isCaught 4 = .ok (.iload_n 2, 1) := by decide +kernel
theorem dL_isCaught_5 : decode cL_isCaught 5 = .ok (.iconst 2, 1) := by decide +kernel
theorem dL_isCaught_6 : decode cL_isCaught 6 = .ok (.invokevirtual 59, 3) := by decide +kernel
theorem dL_isCaught_9 : decode cL_isCaught 9 = .ok (.aload_n 0, 1) := by decide +kernel
theorem dL_isCaught_10 : decode cL_isCaught 10 = .ok (.iload_n 1, 1) := by decide +kernel
theorem dL_isCaught_11 : decode cL_isCaught 11 = .ok (.iload_n 2, 1) := by decide +kernel
theorem dL_isCaught_12 : decode cL_isCaught 12 = .ok (.bipush 6, 2) := by decide +kernel
theorem dL_isCaught_14 : decode cL_isCaught 14 = .ok (.invokevirtual 59, 3) := by decide +kernel
theorem dL_isCaught_17 : decode cL_isCaught 17 = .ok (.imul, 1) := by decide +kernel
theorem dL_isCaught_18 : decode cL_isCaught 18 = .ok (.aload_n 0, 1) := by decide +kernel
theorem dL_isCaught_19 : decode cL_isCaught 19 = .ok (.iconst 1, 1) := by decide +kernel
theorem dL_isCaught_20 : decode cL_isCaught 20 = .ok (.iload_n 1, 1) := by decide +kernel
theorem dL_isCaught_21 : decode cL_isCaught 21 = .ok (.isub, 1) := by decide +kernel
theorem dL_isCaught_22 : decode cL_isCaught 22 = .ok (.iload_n 2, 1) := by decide +kernel
theorem dL_isCaught_23 : decode cL_isCaught 23 = .ok (.iconst 3, 1) := by decide +kernel
theorem dL_isCaught_24 : decode cL_isCaught 24 = .ok (.invokevirtual 59, 3) := by decide +kernel
theorem dL_isCaught_27 : decode cL_isCaught 27 = .ok (.iadd, 1) := by decide +kernel
theorem dL_isCaught_28 : decode cL_isCaught 28 = .ok (.sipush 257, 3) := by decide +kernel
theorem dL_isCaught_31 : decode cL_isCaught 31 = .ok (.irem, 1) := by decide +kernel
theorem dL_isCaught_32 : decode cL_isCaught 32 = .ok (.aload_n 0, 1) := by decide +kernel
theorem dL_isCaught_33 : decode cL_isCaught 33 = .ok (.iload_n 1, 1) := by decide +kernel
theorem dL_isCaught_34 : decode cL_isCaught 34 = .ok (.iload_n 2, 1) := by decide +kernel
theorem dL_isCaught_35 : decode cL_isCaught 35 = .ok (.bipush 7, 2) := by decide +kernel
theorem dL_isCaught_37 : decode cL_isCaught 37 = .ok (.invokevirtual 59, 3) := by decide +kernel
theorem dL_isCaught_40 : decode cL_isCaught 40 = .ok (.if_icmp .eq 7, 3) := by decide +kernel
theorem dL_isCaught_43 : decode cL_isCaught 43 = .ok (.iconst 1, 1) := by decide +kernel
theorem dL_isCaught_44 : decode cL_isCaught 44 = .ok (.goto 4, 3) := by decide +kernel
theorem dL_isCaught_47 : decode cL_isCaught 47 = .ok (.iconst 0, 1) := by decide +kernel
theorem dL_isCaught_48 : decode cL_isCaught 48 = .ok (.ireturn, 1) := by decide +kernel
theorem dL_isSecret_0 : decode cL_isSecret 0 = .ok (.aload_n 0, 1) := by decide +kernel
theorem dL_isSecret_1 : decode cL_isSecret 1 = .ok (.iload_n 1, 1) := by decide +kernel
theorem dL_isSecret_2 : decode cL_isSecret 2 = .ok (.iconst 1, 1) := by decide +kernel
theorem dL_isSecret_3 : decode cL_isSecret 3 = .ok (.invokevirtual 44, 3) := by decide +kernel
theorem dL_isSecret_6 : decode cL_isSecret 6 = .ok (.istore_n 3, 1) := by decide +kernel
theorem dL_isSecret_7 : decode cL_isSecret 7 = .ok (.iconst 0, 1) := by decide +kernel
theorem dL_isSecret_8 : decode cL_isSecret 8 = .ok (.istore 4, 2) := by decide +kernel
theorem dL_isSecret_10 : decode cL_isSecret 10 = .ok (.aload_n 0, 1) := by decide +kernel
theorem dL_isSecret_11 : decode cL_isSecret 11 = .ok (.iload_n 1, 1) := by decide +kernel
theorem dL_isSecret_12 : decode cL_isSecret 12 = .ok (.iconst 5, 1) := by decide +kernel
theorem dL_isSecret_13 : decode cL_isSecret 13 = .ok (.invokevirtual 44, 3) := by decide +kernel
theorem dL_isSecret_16 : decode cL_isSecret 16 = .ok (.iconst 1, 1) := by decide +kernel
theorem dL_isSecret_17 : decode cL_isSecret 17 = .ok (.if_icmp .ne 7, 3) := by decide +kernel
theorem dL_isSecret_20 : decode cL_isSecret 20 = .ok (.iconst 1, 1) := by decide +kernel
theorem dL_isSecret_21 : decode cL_isSecret 21 = .ok (.goto 4, 3) := by decide +kernel
theorem dL_isSecret_24 : decode cL_isSecret 24 = .ok (.iconst 0, 1) := by decide +kernel
theorem dL_isSecret_25 : decode cL_isSecret 25 = .ok (.istore 5, 2) := by decide +kernel
theorem dL_isSecret_27 : decode cL_isSecret 27 = .ok (.aload_n 0, 1) := by decide +kernel
theorem dL_isSecret_28 : decode cL_isSecret 28 = .ok (.iconst 0, 1) := by decide +kernel
theorem dL_isSecret_29 : decode cL_isSecret 29 = .ok (.iload_n 1, 1) := by decide +kernel
theorem dL_isSecret_30 : decode cL_isSecret 30 = .ok (.iconst 0, 1) := by decide +kernel
theorem dL_isSecret_31 : decode cL_isSecret 31 = .ok (.invokevirtual 59, 3) := by decide +kernel
theorem dL_isSecret_34 : decode cL_isSecret 34 = .ok (.aload_n 0, 1) := by decide +kernel
theorem dL_isSecret_35 : decode cL_isSecret 35 = .ok (.iconst 1, 1) := by decide +kernel
theorem dL_isSecret_36 : decode cL_isSecret 36 = .ok (.iload_n 1, 1) := by decide +kernel
theorem dL_isSecret_37 : decode cL_isSecret 37 = .ok (.iconst 0, 1) := by decide +kernel
theorem dL_isSecret_38 : decode cL_isSecret 38 = .ok (.invokevirtual 59, 3) := by decide +kernel
theorem dL_isSecret_41 : decode cL_isSecret 41 = .ok (.iadd, 1) := by decide +kernel
theorem dL_isSecret_42 : decode cL_isSecret 42 = .ok (.sipush 256, 3) := by decide +kernel
theorem dL_isSecret_45 : decode cL_isSecret 45 = .ok (.irem, 1) := by decide +kernel
theorem dL_isSecret_46 : decode cL_isSecret 46 = .ok (.iload_n 2, 1) := by decide +kernel
theorem dL_isSecret_47 : decode cL_isSecret 47 = .ok (.if_icmp .ne 41, 3) := by decide +kernel
theorem dL_isSecret_50 : decode cL_isSecret 50 = .ok (.aload_n 0, 1) := by decide +kernel
theorem dL_isSecret_51 : decode cL_isSecret 51 = .ok (.iconst 0, 1) := by decide +kernel
theorem dL_isSecret_52 : decode cL_isSecret 52 = .ok (.iload_n 1, 1) := by decide +kernel
theorem dL_isSecret_53 : decode cL_isSecret 53 = .ok (.iload_n 2, 1) := by decide +kernel
theorem dL_isSecret_54 : decode cL_isSecret 54 = .ok (.invokevirtual 65, 3) := by decide +kernel
theorem dL_isSecret_57 : decode cL_isSecret 57 = .ok (.aload_n 0, 1) := by decide +kernel
theorem dL_isSecret_58 : decode cL_isSecret 58 = .ok (.iconst 1, 1) := by decide +kernel
theorem dL_isSecret_59 : decode cL_isSecret 59 = .ok (.iload_n 1, 1) := by decide +kernel
theorem dL_isSecret_60 : decode cL_isSecret 60 = .ok (.iconst 0, 1) := by decide +kernel
theorem dL_isSecret_61 : decode cL_isSecret 61 = .ok (.invokevirtual 59, 3) := by decide +kernel
theorem dL_isSecret_64 : decode cL_isSecret 64 = .ok (.if_icmp .ne 24, 3) := by decide +kernel
theorem dL_isSecret_67 : decode cL_isSecret 67 = .ok (.aload_n 0, 1) := by decide +kernel
theorem dL_isSecret_68 : decode cL_isSecret 68 = .ok (.iconst 1, 1) := by decide +kernel
theorem dL_isSecret_69 : decode cL_isSecret 69 = .ok (.iload_n 1, 1) := by decide +kernel
theorem dL_isSecret_70 : decode cL_isSecret 70 = .ok (.iload_n 2, 1) := by decide +kernel
theorem dL_isSecret_71 : decode cL_isSecret 71 = .ok (.invokevirtual 65, 3) := by decide +kernel
theorem dL_isSecret_74 : decode cL_isSecret 74 = .ok (.aload_n 0, 1) := by decide +kernel
theorem dL_isSecret_75 : decode cL_isSecret 75 = .ok (.iconst 0, 1) := by decide +kernel
theorem dL_isSecret_76 : decode cL_isSecret 76 = .ok (.iload_n 1, 1) := by decide +kernel
theorem dL_isSecret_77 : decode cL_isSecret 77 = .ok (.iconst 0, 1) := by decide +kernel
theorem dL_isSecret_78 : decode cL_isSecret 78 = .ok (.invokevirtual 59, 3) := by decide +kernel
theorem dL_isSecret_81 : decode cL_isSecret 81 = .ok (.if_icmp .ne 7, 3) := by decide +kernel
theorem dL_isSecret_84 : decode cL_isSecret 84 = .ok (.iconst 1, 1) := by decide +kernel
theorem dL_isSecret_85 : decode cL_isSecret 85 = .ok (.goto 4, 3) := by decide +kernel
theorem dL_isSecret_88 : decode cL_isSecret 88 = .ok (.iconst 0, 1) := by decide +kernel
theorem dL_isSecret_89 : decode cL_isSecret 89 = .ok (.istore 6, 2) := by decide +kernel
theorem dL_isSecret_91 : decode cL_isSecret 91 = .ok (.aload_n 0, 1) := by decide +kernel
theorem dL_isSecret_92 : decode cL_isSecret 92 = .ok (.iload_n 1, 1) := by decide +kernel
theorem dL_isSecret_93 : decode cL_isSecret 93 = .ok (.iconst 0, 1) := by decide +kernel
theorem dL_isSecret_94 : decode cL_isSecret 94 = .ok (.invokevirtual 44, 3) := by decide +kernel
theorem dL_isSecret_97 : decode cL_isSecret 97 = .ok (.istore 7, 2) := by decide +kernel
theorem dL_isSecret_99 : decode cL_isSecret 99 = .ok (.iconst 0, 1) := by decide +kernel
theorem dL_isSecret_100 : decode cL_isSecret 100 = .ok (.istore 8, 2) := by decide +kernel
theorem dL_isSecret_102 : decode cL_isSecret 102 = .ok (.iload 8, 2) := by decide +kernel
theorem dL_isSecret_104 : decode cL_isSecret 104 = .ok (.iload_n 3, 1) := by decide +kernel
theorem dL_isSecret_105 : decode cL_isSecret 105 = .ok (.if_icmp .ge 135, 3) := by decide +kernel
theorem dL_isSecret_108 : decode cL_isSecret 108 = .ok (.iload 6, 2) := by decide +kernel
theorem dL_isSecret_110 : decode cL_isSecret 110 = .ok (.ifCond .eq 130, 3) := by decide +kernel
theorem dL_isSecret_113 : decode cL_isSecret 113 = .ok (.aload_n 0, 1) := by decide +kernel
theorem dL_isSecret_114 : decode cL_isSecret 114 = .ok (.iload_n 1, 1) := by decide +kernel
theorem dL_isSecret_115 : decode cL_isSecret 115 = .ok (.iload 8, 2) := by decide +kernel
theorem dL_isSecret_117 : decode cL_isSecret 117 = .ok (.iconst 0, 1) := by decide +kernel
theorem dL_isSecret_118 : decode cL_isSecret 118 = .ok (.invokevirtual 68, 3) := by decide +kernel
theorem dL_isSecret_121 : decode cL_isSecret 121 = .ok (.iload 7, 2) := by decide +kernel
theorem dL_isSecret_123 : decode cL_isSecret 123 = .ok (.if_icmp .ge 43, 3) := by decide +kernel
theorem dL_isSecret_126 : decode cL_isSecret 126 = .ok (.aload_n 0, 1) := by decide +kernel
theorem dL_isSecret_127 : decode cL_isSecret 127 = .ok (.iload_n 1, 1) := by decide +kernel
theorem dL_isSecret_128 : decode cL_isSecret 128 = .ok (.iload 8, 2) := by decide +kernel
theorem dL_isSecret_130 : decode cL_isSecret 130 = .ok (.iconst 0, 1) := by decide +kernel
theorem dL_isSecret_131 : decode cL_isSecret 131 = .ok (.invokevirtual 68, 3) := by decide +kernel
theorem dL_isSecret_134 : decode cL_isSecret 134 = .ok (.ifCond .le 32, 3) := by decide +kernel
theorem dL_isSecret_137 : decode cL_isSecret 137 = .ok (.aload_n 0, 1) := by decide +kernel
theorem dL_isSecret_138 : decode cL_isSecret 138 = .ok (.iload_n 1, 1) := by decide +kernel
theorem dL_isSecret_139 : decode cL_isSecret 139 = .ok (.iload 8, 2) := by decide +kernel
theorem dL_isSecret_141 : decode cL_isSecret 141 = .ok (.iconst 1, 1) := by decide +kernel
theorem dL_isSecret_142 : decode cL_isSecret 142 = .ok (.invokevirtual 68, 3) := by decide +kernel
theorem dL_isSecret_145 : decode cL_isSecret 145 = .ok (.aload_n 0, 1) := by decide +kernel
theorem dL_isSecret_146 : decode cL_isSecret 146 = .ok (.iload_n 1, 1) := by decide +kernel
theorem dL_isSecret_147 : decode cL_isSecret 147 = .ok (.iload 8, 2) := by decide +kernel
theorem dL_isSecret_149 : decode cL_isSecret 149 = .ok (.iconst 2, 1) := by decide +kernel
theorem dL_isSecret_150 : decode cL_isSecret 150 = .ok (.invokevirtual 68, 3) := by decide +kernel
theorem dL_isSecret_153 : decode cL_isSecret 153 = .ok (.iadd, 1) := by decide +kernel
theorem dL_isSecret_154 : decode cL_isSecret 154 = .ok (.sipush 256, 3) := by decide +kernel
theorem dL_isSecret_157 : decode cL_isSecret 157 = .ok (.irem, 1) := by decide +kernel
theorem dL_isSecret_158 : decode cL_isSecret 158 = .ok (.iload_n 2, 1) := by decide +kernel
theorem dL_isSecret_159 : decode cL_isSecret 159 = .ok (.if_icmp .ne 7, 3) := by decide +kernel
theorem dL_isSecret_162 : decode cL_isSecret 162 = .ok (.iconst 1, 1) := by decide +kernel
theorem dL_isSecret_163 : decode cL_isSecret 163 = .ok (.goto 4, 3) := by decide +kernel
theorem dL_isSecret_166 : decode cL_isSecret 166 = .ok (.iconst 0, 1) := by decide +kernel
theorem dL_isSecret_167 : decode cL_isSecret 167 = .ok (.istore 6, 2) := by decide +kernel
theorem dL_isSecret_169 : decode cL_isSecret 169 = .ok (.aload_n 0, 1) := by decide +kernel
theorem dL_isSecret_170 : decode cL_isSecret 170 = .ok (.iload_n 1, 1) := by decide +kernel
theorem dL_isSecret_171 : decode cL_isSecret 171 = .ok (.iload 8, 2) := by decide +kernel
theorem dL_isSecret_173 : decode cL_isSecret 173 = .ok (.iconst 0, 1) := by decide +kernel
theorem dL_isSecret_174 : decode cL_isSecret 174 = .ok (.invokevirtual 68, 3) := by decide +kernel
theorem dL_isSecret_177 : decode cL_isSecret 177 = .ok (.istore 7, 2) := by decide +kernel
theorem dL_isSecret_179 : decode cL_isSecret 179 = .ok (.aload_n 0, 1) := by decide +kernel
theorem dL_isSecret_180 : decode cL_isSecret 180 = .ok (.iload_n 1, 1) := by decide +kernel
theorem dL_isSecret_181 : decode cL_isSecret 181 = .ok (.iload 8, 2) := by decide +kernel
theorem dL_isSecret_183 : decode cL_isSecret 183 = .ok (.iconst 3, 1) := by decide +kernel
theorem dL_isSecret_184 : decode cL_isSecret 184 = .ok (.invokevirtual 68, 3) := by decide +kernel
theorem dL_isSecret_187 : decode cL_isSecret 187 = .ok (.istore 9, 2) := by decide +kernel
theorem dL_isSecret_189 : decode cL_isSecret 189 = .ok (.iload 4, 2) := by decide +kernel
theorem dL_isSecret_191 : decode cL_isSecret 191 = .ok (.iload 9, 2) := by decide +kernel
theorem dL_isSecret_193 : decode cL_isSecret 193 = .ok (.iconst 1, 1) := by decide +kernel
theorem dL_isSecret_194 : decode cL_isSecret 194 = .ok (.if_icmp .eq 9, 3) := by decide +kernel
theorem dL_isSecret_197 : decode cL_isSecret 197 = .ok (.iload 9, 2) := by decide +kernel
theorem dL_isSecret_199 : decode cL_isSecret 199 = .ok (.iconst 2, 1) := by decide +kernel
theorem dL_isSecret_200 : decode cL_isSecret 200 = .ok (.if_icmp .ne 7, 3) := by decide +kernel
theorem dL_isSecret_203 : decode cL_isSecret 203 = .ok (.iconst 1, 1) := by decide +kernel
theorem dL_isSecret_204 : decode cL_isSecret 204 = .ok (.goto 4, 3) := by decide +kernel
theorem dL_isSecret_207 : decode cL_isSecret 207 = .ok (.iconst 0, 1) := by decide +kernel
theorem dL_isSecret_208 : decode cL_isSecret 208 = .ok (.iadd, 1) := by decide +kernel
theorem dL_isSecret_209 : decode cL_isSecret 209 = .ok (.istore 4, 2) := by decide +kernel
theorem dL_isSecret_211 : decode cL_isSecret 211 = .ok (.iload 6, 2) := by decide +kernel
theorem dL_isSecret_213 : decode cL_isSecret 213 = .ok (.ifCond .eq 18, 3) := by decide +kernel
theorem dL_isSecret_216 : decode cL_isSecret 216 = .ok (.iload 9, 2) := by decide +kernel
theorem dL_isSecret_218 : decode cL_isSecret 218 = .ok (.iconst 3, 1) := by decide +kernel
theorem dL_isSecret_219 : decode cL_isSecret 219 = .ok (.if_icmp .lt 8, 3) := by decide +kernel
theorem dL_isSecret_222 : decode cL_isSecret 222 = .ok (.iload 5, 2) := by decide +kernel
theorem dL_isSecret_224 : decode cL_isSecret 224 = .ok (.ifCond .eq 7, 3) := by decide +kernel
theorem dL_isSecret_227 : decode cL_isSecret 227 = .ok (.iconst 1, 1) := by decide +kernel
theorem dL_isSecret_228 : decode cL_isSecret 228 = .ok (.goto 4, 3) := by decide +kernel
theorem dL_isSecret_231 : decode cL_isSecret 231 = .ok (.iconst 0, 1) := by decide +kernel
theorem dL_isSecret_232 : decode cL_isSecret 232 = .ok (.istore 6, 2) := by decide +kernel
theorem dL_isSecret_234 : decode cL_isSecret 234 = .ok (.iinc 8 1, 3) := by decide +kernel
theorem dL_isSecret_237 : decode cL_isSecret 237 = .ok (.goto (-135), 3) := by decide +kernel
theorem dL_isSecret_240 : decode cL_isSecret 240 = .ok (.iload 6, 2) := by decide +kernel
theorem dL_isSecret_242 : decode cL_isSecret 242 = .ok (.ifCond .eq 45, 3) := by decide +kernel
theorem dL_isSecret_245 : decode cL_isSecret 245 = .ok (.iload_n 3, 1) := by decide +kernel
theorem dL_isSecret_246 : decode cL_isSecret 246 = .ok (.iconst 4, 1) := by decide +kernel
theorem dL_isSecret_247 : decode cL_isSecret 247 = .ok (.if_icmp .gt 40, 3) := by decide +kernel
theorem dL_isSecret_250 : decode cL_isSecret 250 = .ok (.aload_n 0, 1) := by decide +kernel
theorem dL_isSecret_251 : decode cL_isSecret 251 = .ok (.iload_n 1, 1) := by decide +kernel
theorem dL_isSecret_252 : decode cL_isSecret 252 = .ok (.iload_n 3, 1) := by decide +kernel
theorem dL_isSecret_253 : decode cL_isSecret 253 = .ok (.iconst 0, 1) := by decide +kernel
theorem dL_isSecret_254 : decode cL_isSecret 254 = .ok (.invokevirtual 68, 3) := by decide +kernel
theorem dL_isSecret_257 : decode cL_isSecret 257 = .ok (.iconst (-1), 1) := by decide +kernel
theorem dL_isSecret_258 : decode cL_isSecret 258 = .ok (.if_icmp .ne 29, 3) := by decide +kernel
theorem dL_isSecret_261 : decode cL_isSecret 261 = .ok (.aload_n 0, 1) := by decide +kernel
theorem dL_isSecret_262 : decode cL_isSecret 262 = .ok (.iload_n 1, 1) := by decide +kernel
theorem dL_isSecret_263 : decode cL_isSecret 263 = .ok (.invokevirtual 71, 3) := by decide +kernel
theorem dL_isSecret_266 : decode cL_isSecret 266 = .ok (.iload 4, 2) := by decide +kernel
theorem dL_isSecret_268 : decode cL_isSecret 268 = .ok (.if_icmp .lt 19, 3) := by decide +kernel
theorem dL_isSecret_271 : decode cL_isSecret 271 = .ok (.aload_n 0, 1) := by decide +kernel
theorem dL_isSecret_272 : decode cL_isSecret 272 = .ok (.iload_n 1, 1) := by decide +kernel
theorem dL_isSecret_273 : decode cL_isSecret 273 = .ok (.invokevirtual 71, 3) := by decide +kernel
theorem dL_isSecret_276 : decode cL_isSecret 276 = .ok (.iload 4, 2) := by decide +kernel
theorem dL_isSecret_278 : decode cL_isSecret 278 = .ok (.iconst 1, 1) := by decide +kernel
theorem dL_isSecret_279 : decode cL_isSecret 279 = .ok (.iadd, 1) := by decide +kernel
theorem dL_isSecret_280 : decode cL_isSecret 280 = .ok (.if_icmp .gt 7, 3) := by decide +kernel
theorem dL_isSecret_283 : decode cL_isSecret 283 = .ok (.iconst 1, 1) := by decide +kernel
theorem dL_isSecret_284 : decode cL_isSecret 284 = .ok (.goto 4, 3) := by decide +kernel
theorem dL_isSecret_287 : decode cL_isSecret 287 = .ok (.iconst 0, 1) := by decide +kernel
theorem dL_isSecret_288 : decode cL_isSecret 288 = .ok (.istore 6, 2) := by decide +kernel
theorem dL_isSecret_290 : decode cL_isSecret 290 = .ok (.iload 6, 2) := by decide +kernel
theorem dL_isSecret_292 : decode cL_isSecret 292 = .ok (.ifCond .eq 53, 3) := by decide +kernel
theorem dL_isSecret_295 : decode cL_isSecret 295 = .ok (.aload_n 0, 1) := by decide +kernel
theorem dL_isSecret_296 : decode cL_isSecret 296 = .ok (.iload_n 1, 1) := by decide +kernel
theorem dL_isSecret_297 : decode cL_isSecret 297 = .ok (.invokevirtual 74, 3) := by decide +kernel
theorem dL_isSecret_300 : decode cL_isSecret 300 = .ok (.iload 5, 2) := by decide +kernel
theorem dL_isSecret_302 : decode cL_isSecret 302 = .ok (.ifCond .eq 7, 3) := by decide +kernel
theorem dL_isSecret_305 : decode cL_isSecret 305 = .ok (.iconst 0, 1) := by decide +kernel
theorem dL_isSecret_306 : decode cL_isSecret 306 = .ok (.goto 16, 3) := by decide +kernel
theorem dL_isSecret_309 : decode cL_isSecret 309 = .ok (.aload_n 0, 1) := by decide +kernel
theorem dL_isSecret_310 : decode cL_isSecret 310 = .ok (.iload_n 1, 1) := by decide +kernel
theorem dL_isSecret_311 : decode cL_isSecret 311 = .ok (.invokevirtual 71, 3) := by decide +kernel
theorem dL_isSecret_314 : decode cL_isSecret 314 = .ok (.ifCond .le 7, 3) := by decide +kernel
theorem dL_isSecret_317 : decode cL_isSecret 317 = .ok (.iconst 1, 1) := by decide +kernel
theorem dL_isSecret_318 : decode cL_isSecret 318 = .ok (.goto 4, 3) := by decide +kernel
theorem dL_isSecret_321 : decode cL_isSecret 321 = .ok (.iconst 2, 1) := by decide +kernel
theorem dL_isSecret_322 : decode cL_isSecret 322 = .ok (.if_icmp .ne 23, 3) := by decide +kernel
theorem dL_isSecret_325 : decode cL_isSecret 325 = .ok (.iload 5, 2) := by decide +kernel
theorem dL_isSecret_327 : decode cL_isSecret 327 = .ok (.ifCond .eq 14, 3) := by decide +kernel
theorem dL_isSecret_330 : decode cL_isSecret 330 = .ok (.aload_n 0, 1) := by decide +kernel
theorem dL_isSecret_331 : decode cL_isSecret 331 = .ok (.iload_n 1, 1) := by decide +kernel
theorem dL_isSecret_332 : decode cL_isSecret 332 = .ok (.bipush 6, 2) := by decide +kernel
theorem dL_isSecret_334 : decode cL_isSecret 334 = .ok (.invokevirtual 44, 3) := by decide +kernel
theorem dL_isSecret_337 : decode cL_isSecret 337 = .ok (.iconst 1, 1) := by decide +kernel
theorem dL_isSecret_338 : decode cL_isSecret 338 = .ok (.if_icmp .le 7, 3) := by decide +kernel
theorem dL_isSecret_341 : decode cL_isSecret 341 = .ok (.iconst 1, 1) := by decide +kernel
theorem dL_isSecret_342 : decode cL_isSecret 342 = .ok (.goto 4, 3) := by decide +kernel
theorem dL_isSecret_345 : decode cL_isSecret 345 = .ok (.iconst 0, 1) := by decide +kernel
theorem dL_isSecret_346 : decode cL_isSecret 346 = .ok (.istore 6, 2) := by decide +kernel
theorem dL_isSecret_348 : decode cL_isSecret 348 = .ok (.aload_n 0, 1) := by decide +kernel
theorem dL_isSecret_349 : decode cL_isSecret 349 = .ok (.iconst 1, 1) := by decide +kernel
theorem dL_isSecret_350 : decode cL_isSecret 350 = .ok (.iload_n 1, 1) := by decide +kernel
theorem dL_isSecret_351 : decode cL_isSecret 351 = .ok (.invokestatic 77, 3) := by decide +kernel
theorem dL_isSecret_354 : decode cL_isSecret 354 = .ok (.ifCond .eq 9, 3) := by decide +kernel
theorem dL_isSecret_357 : decode cL_isSecret 357 = .ok (.sipush 1000, 3) := by decide +kernel
theorem dL_isSecret_360 : decode cL_isSecret 360 = .ok (.goto 39, 3) := by decide +kernel
theorem dL_isSecret_363 : decode cL_isSecret 363 = .ok (.aload_n 0, 1) := by decide +kernel
theorem dL_isSecret_364 : decode cL_isSecret 364 = .ok (.iconst 0, 1) := by decide +kernel
theorem dL_isSecret_365 : decode cL_isSecret 365 = .ok (.iload_n 1, 1) := by decide +kernel
theorem dL_isSecret_366 : decode cL_isSecret 366 = .ok (.invokestatic 77, 3) := by decide +kernel
theorem dL_isSecret_369 : decode cL_isSecret 369 = .ok (.ifCond .eq 9, 3) := by decide +kernel
theorem dL_isSecret_372 : decode cL_isSecret 372 = .ok (.sipush 1001, 3) := by decide +kernel
theorem dL_isSecret_375 : decode cL_isSecret 375 = .ok (.goto 24, 3) := by decide +kernel
theorem dL_isSecret_378 : decode cL_isSecret 378 = .ok (.aload_n 0, 1) := by decide +kernel
theorem dL_isSecret_379 : decode cL_isSecret 379 = .ok (.iconst 0, 1) := by decide +kernel
theorem dL_isSecret_380 : decode cL_isSecret 380 = .ok (.iload_n 1, 1) := by decide +kernel
theorem dL_isSecret_381 : decode cL_isSecret 381 = .ok (.bipush 6, 2) := by decide +kernel
theorem dL_isSecret_383 : decode cL_isSecret 383 = .ok (.invokevirtual 59, 3) := by decide +kernel
theorem dL_isSecret_386 : decode cL_isSecret 386 = .ok (.aload_n 0, 1) := by decide +kernel
theorem dL_isSecret_387 : decode cL_isSecret 387 = .ok (.iconst 1, 1) := by decide +kernel
theorem dL_isSecret_388 : decode cL_isSecret 388 = .ok (.iload_n 1, 1) := by decide +kernel
theorem dL_isSecret_389 : decode cL_isSecret 389 = .ok (.bipush 6, 2) := by decide +kernel
theorem dL_isSecret_391 : decode cL_isSecret 391 = .ok (.invokevirtual 59, 3) := by decide +kernel
theorem dL_isSecret_394 : decode cL_isSecret 394 = .ok (.iadd, 1) := by decide +kernel
theorem dL_isSecret_395 : decode cL_isSecret 395 = .ok (.sipush 256, 3) := by decide +kernel
theorem dL_isSecret_398 : decode cL_isSecret 398 = .ok (.irem, 1) := by decide +kernel
theorem dL_isSecret_399 : decode cL_isSecret 399 = .ok (.istore 8, 2) := by decide +kernel
theorem dL_isSecret_401 : decode cL_isSecret 401 = .ok (.aload_n 0, 1) := by decide +kernel
theorem dL_isSecret_402 : decode cL_isSecret 402 = .ok (.iconst 4, 1) := by decide +kernel
theorem dL_isSecret_403 : decode cL_isSecret 403 = .ok (.invokevirtual 9, 3) := by decide +kernel
theorem dL_isSecret_406 : decode cL_isSecret 406 = .ok (.aload_n 0, 1) := by decide +kernel
theorem dL_isSecret_407 : decode cL_isSecret 407 = .ok (.iconst 5, 1) := by decide +kernel
theorem dL_isSecret_408 : decode cL_isSecret 408 = .ok (.invokevirtual 9, 3) := by decide +kernel
theorem dL_isSecret_411 : decode cL_isSecret 411 = .ok (.iadd, 1) := by decide +kernel
theorem dL_isSecret_412 : decode cL_isSecret 412 = .ok (.ifCond .le 8, 3) := by decide +kernel
theorem dL_isSecret_415 : decode cL_isSecret 415 = .ok (.bipush (-5), 2) := by decide +kernel
theorem dL_isSecret_417 : decode cL_isSecret 417 = .ok (.goto 5, 3) := by decide +kernel
theorem dL_isSecret_420 : decode cL_isSecret 420 = .ok (.iload 8, 2) := by decide +kernel
theorem dL_isSecret_422 : decode cL_isSecret 422 = .ok (.istore 8, 2) := by decide +kernel
theorem dL_isSecret_424 : decode cL_isSecret 424 = .ok (.iload 6, 2) := by decide +kernel
theorem dL_isSecret_426 : decode cL_isSecret 426 = .ok (.ifCond .eq 50, 3) := by decide +kernel
theorem dL_isSecret_429 : decode cL_isSecret 429 = .ok (.aload_n 0, 1) := by decide +kernel
theorem dL_isSecret_430 : decode cL_isSecret 430 = .ok (.iload_n 1, 1) := by decide +kernel
theorem dL_isSecret_431 : decode cL_isSecret 431 = .ok (.invokevirtual 81, 3) := by decide +kernel
theorem dL_isSecret_434 : decode cL_isSecret 434 = .ok (.iload 8, 2) := by decide +kernel
theorem dL_isSecret_436 : decode cL_isSecret 436 = .ok (.if_icmp .ne 40, 3) := by decide +kernel
theorem dL_isSecret_439 : decode cL_isSecret 439 = .ok (.aload_n 0, 1) := by decide +kernel
theorem dL_isSecret_440 : decode cL_isSecret 440 = .ok (.iload_n 1, 1) := by decide +kernel
theorem dL_isSecret_441 : decode cL_isSecret 441 = .ok (.iconst 2, 1) := by decide +kernel
theorem dL_isSecret_442 : decode cL_isSecret 442 = .ok (.invokevirtual 44, 3) := by decide +kernel
theorem dL_isSecret_445 : decode cL_isSecret 445 = .ok (.bipush (-6), 2) := by decide +kernel
theorem dL_isSecret_447 : decode cL_isSecret 447 = .ok (.if_icmp .ne 7, 3) := by decide +kernel
theorem dL_isSecret_450 : decode cL_isSecret 450 = .ok (.iconst 1, 1) := by decide +kernel
theorem dL_isSecret_451 : decode cL_isSecret 451 = .ok (.goto 4, 3) := by decide +kernel
theorem dL_isSecret_454 : decode cL_isSecret 454 = .ok (.iconst 0, 1) := by decide +kernel
theorem dL_isSecret_455 : decode cL_isSecret 455 = .ok (.aload_n 0, 1) := by decide +kernel
theorem dL_isSecret_456 : decode cL_isSecret 456 = .ok (.iload_n 1, 1) := by decide +kernel
theorem dL_isSecret_457 : decode cL_isSecret 457 = .ok (.iconst 3, 1) := by decide +kernel
theorem dL_isSecret_458 : decode cL_isSecret 458 = .ok (.invokevirtual 44, 3) := by decide +kernel
theorem dL_isSecret_461 : decode cL_isSecret 461 = .ok (.ifCond .ne 7, 3) := by decide +kernel
theorem dL_isSecret_464 : decode cL_isSecret 464 = .ok (.iconst 1, 1) := by decide +kernel
theorem dL_isSecret_465 : decode cL_isSecret 465 = .ok (.goto 4, 3) := by decide +kernel
theorem dL_isSecret_468 : decode cL_isSecret 468 = .ok (.iconst 0, 1) := by decide +kernel
theorem dL_isSecret_469 : decode cL_isSecret 469 = .ok (.if_icmp .ne 7, 3) := by decide +kernel
theorem dL_isSecret_472 : decode cL_isSecret 472 = .ok (.iconst 1, 1) := by decide +kernel
theorem dL_isSecret_473 : decode cL_isSecret 473 = .ok (.goto 4, 3) := by decide +kernel
theorem dL_isSecret_476 : decode cL_isSecret 476 = .ok (.iconst 0, 1) := by decide +kernel
theorem dL_isSecret_477 : decode cL_isSecret 477 = .ok (.ireturn, 1) := by decide +kernel
theorem dL_isStore_0 : decode cL_isStore 0 = .ok (.aload_n 0, 1) := by decide +kernel
theorem dL_isStore_1 : decode cL_isStore 1 = .ok (.iload_n 1, 1) := by decide +kernel
theorem dL_isStore_2 : decode cL_isStore 2 = .ok (.iload_n 2, 1) := by decide +kernel
theorem dL_isStore_3 : decode cL_isStore 3 = .ok (.iconst 0, 1) := by decide +kernel
theorem dL_isStore_4 : decode cL_isStore 4 = .ok (.invokevirtual 59, 3) := by decide +kernel
theorem dL_isStore_7 : decode cL_isStore 7 = .ok (.istore_n 3, 1) := by decide +kernel
theorem dL_isStore_8 : decode cL_isStore 8 = .ok (.aload_n 0, 1) := by decide +kernel
theorem dL_isStore_9 : decode cL_isStore 9 = .ok (.iconst 1, 1) := by decide +kernel
theorem dL_isStore_10 : decode cL_isStore 10 = .ok (.iload_n 1, 1) := by decide +kernel
theorem dL_isStore_11 : decode cL_isStore 11 = .ok (.isub, 1) := by decide +kernel
theorem dL_isStore_12 : decode cL_isStore 12 = .ok (.iload_n 2, 1) := by decide +kernel
theorem dL_isStore_13 : decode cL_isStore 13 = .ok (.iconst 2, 1) := by decide +kernel
theorem dL_isStore_14 : decode cL_isStore 14 = .ok (.invokevirtual 59, 3) := by decide +kernel
theorem dL_isStore_17 : decode cL_isStore 17 = .ok (.istore 4, 2) := by decide +kernel
theorem dL_isStore_19 : decode cL_isStore 19 = .ok (.aload_n 0, 1) := by decide +kernel
theorem dL_isStore_20 : decode cL_isStore 20 = .ok (.iconst 1, 1) := by decide +kernel
theorem dL_isStore_21 : decode cL_isStore 21 = .ok (.iload_n 1, 1) := by decide +kernel
theorem dL_isStore_22 : decode cL_isStore 22 = .ok (.isub, 1) := by decide +kernel
theorem dL_isStore_23 : decode cL_isStore 23 = .ok (.iload_n 2, 1) := by decide +kernel
theorem dL_isStore_24 : decode cL_isStore 24 = .ok (.iconst 3, 1) := by decide +kernel
theorem dL_isStore_25 : decode cL_isStore 25 = .ok (.invokevirtual 59, 3) := by decide +kernel
theorem dL_isStore_28 : decode cL_isStore 28 = .ok (.istore 5, 2) := by decide +kernel
theorem dL_isStore_30 : decode cL_isStore 30 = .ok (.iload_n 3, 1) := by decide +kernel
theorem dL_isStore_31 : decode cL_isStore 31 = .ok (.ifCond .lt 61, 3) := by decide +kernel
theorem dL_isStore_34 : decode cL_isStore 34 = .ok (.iload_n 3, 1) := by decide +kernel
theorem dL_isStore_35 : decode cL_isStore 35 = .ok (.sipush 256, 3) := by decide +kernel
theorem dL_isStore_38 : decode cL_isStore 38 = .ok (.if_icmp .ge 54, 3) := by decide +kernel
theorem dL_isStore_41 : decode cL_isStore 41 = .ok (.iload 4, 2) := by decide +kernel
theorem dL_isStore_43 : decode cL_isStore 43 = .ok (.ifCond .le 49, 3) := by decide +kernel
theorem dL_isStore_46 : decode cL_isStore 46 = .ok (.iload 4, 2) := by decide +kernel
theorem dL_isStore_48 : decode cL_isStore 48 = .ok (.sipush 257, 3) := by decide +kernel
theorem dL_isStore_51 : decode cL_isStore 51 = .ok (.if_icmp .ge 41, 3) := by decide +kernel
theorem dL_isStore_54 : decode cL_isStore 54 = .ok (.iload 5, 2) := by decide +kernel
theorem dL_isStore_56 : decode cL_isStore 56 = .ok (.ifCond .lt 36, 3) := by decide +kernel
theorem dL_isStore_59 : decode cL_isStore 59 = .ok (.iload 5, 2) := by decide +kernel
theorem dL_isStore_61 : decode cL_isStore 61 = .ok (.sipush 257, 3) := by decide +kernel
theorem dL_isStore_64 : decode cL_isStore 64 = .ok (.if_icmp .ge 28, 3) := by decide +kernel
theorem dL_isStore_67 : decode cL_isStore 67 = .ok (.aload_n 0, 1) := by decide +kernel
theorem dL_isStore_68 : decode cL_isStore 68 = .ok (.iload_n 1, 1) := by decide +kernel
theorem dL_isStore_69 : decode cL_isStore 69 = .ok (.iload_n 2, 1) := by decide +kernel
theorem dL_isStore_70 : decode cL_isStore 70 = .ok (.iconst 1, 1) := by decide +kernel
theorem dL_isStore_71 : decode cL_isStore 71 = .ok (.invokevirtual 59, 3) := by decide +kernel
theorem dL_isStore_74 : decode cL_isStore 74 = .ok (.iload 4, 2) := by decide +kernel
theorem dL_isStore_76 : decode cL_isStore 76 = .ok (.iload_n 3, 1) := by decide +kernel
theorem dL_isStore_77 : decode cL_isStore 77 = .ok (.imul, 1) := by decide +kernel
theorem dL_isStore_78 : decode cL_isStore 78 = .ok (.iload 5, 2) := by decide +kernel
theorem dL_isStore_80 : decode cL_isStore 80 = .ok (.iadd, 1) := by decide +kernel
theorem dL_isStore_81 : decode cL_isStore 81 = .ok (.sipush 257, 3) := by decide +kernel
theorem dL_isStore_84 : decode cL_isStore 84 = .ok (.irem, 1) := by decide +kernel
theorem dL_isStore_85 : decode cL_isStore 85 = .ok (.if_icmp .ne 7, 3) := by decide +kernel
theorem dL_isStore_88 : decode cL_isStore 88 = .ok (.iconst 1, 1) := by decide +kernel
theorem dL_isStore_89 : decode cL_isStore 89 = .ok (.goto 4, 3) := by decide +kernel
theorem dL_isStore_92 : decode cL_isStore 92 = .ok (.iconst 0, 1) := by decide +kernel
theorem dL_isStore_93 : decode cL_isStore 93 = .ok (.istore 6, 2) := by decide +kernel
theorem dL_isStore_95 : decode cL_isStore 95 = .ok (.iload 6, 2) := by decide +kernel
theorem dL_isStore_97 : decode cL_isStore 97 = .ok (.ifCond .eq 61, 3) := by decide +kernel
theorem dL_isStore_100 : decode cL_isStore 100 = .ok (.aload_n 0, 1) := by decide +kernel
theorem dL_isStore_101 : decode cL_isStore 101 = .ok (.iload_n 1, 1) := by decide +kernel
theorem dL_isStore_102 : decode cL_isStore 102 = .ok (.iload_n 2, 1) := by decide +kernel
theorem dL_isStore_103 : decode cL_isStore 103 = .ok (.bipush 6, 2) := by decide +kernel
theorem dL_isStore_105 : decode cL_isStore 105 = .ok (.invokevirtual 59, 3) := by decide +kernel
theorem dL_isStore_108 : decode cL_isStore 108 = .ok (.iload_n 3, 1) := by decide +kernel
theorem dL_isStore_109 : decode cL_isStore 109 = .ok (.aload_n 0, 1) := by decide +kernel
theorem dL_isStore_110 : decode cL_isStore 110 = .ok (.iload_n 1, 1) := by decide +kernel
theorem dL_isStore_111 : decode cL_isStore 111 = .ok (.iload_n 2, 1) := by decide +kernel
theorem dL_isStore_112 : decode cL_isStore 112 = .ok (.iconst 4, 1) := by decide +kernel
theorem dL_isStore_113 : decode cL_isStore 113 = .ok (.invokevirtual 59, 3) := by decide +kernel
theorem dL_isStore_116 : decode cL_isStore 116 = .ok (.iadd, 1) := by decide +kernel
theorem dL_isStore_117 : decode cL_isStore 117 = .ok (.sipush 256, 3) := by decide +kernel
theorem dL_isStore_120 : decode cL_isStore 120 = .ok (.irem, 1) := by decide +kernel
theorem dL_isStore_121 : decode cL_isStore 121 = .ok (.if_icmp .ne 37, 3) := by decide +kernel
theorem dL_isStore_124 : decode cL_isStore 124 = .ok (.aload_n 0, 1) := by decide +kernel
theorem dL_isStore_125 : decode cL_isStore 125 = .ok (.iload_n 1, 1) := by decide +kernel
theorem dL_isStore_126 : decode cL_isStore 126 = .ok (.iload_n 2, 1) := by decide +kernel
theorem dL_isStore_127 : decode cL_isStore 127 = .ok (.bipush 7, 2) := by decide +kernel
theorem dL_isStore_129 : decode cL_isStore 129 = .ok (.invokevirtual 59, 3) := by decide +kernel
theorem dL_isStore_132 : decode cL_isStore 132 = .ok (.aload_n 0, 1) := by decide +kernel
theorem dL_isStore_133 : decode cL_isStore 133 = .ok (.iload_n 1, 1) := by decide +kernel
theorem dL_isStore_134 : decode cL_isStore 134 = .ok (.iload_n 2, 1) := by decide +kernel
theorem dL_isStore_135 : decode cL_isStore 135 = .ok (.iconst 1, 1) := by decide +kernel
theorem dL_isStore_136 : decode cL_isStore 136 = .ok (.invokevirtual 59, 3) := by decide +kernel
theorem dL_isStore_139 : decode cL_isStore 139 = .ok (.aload_n 0, 1) := by decide +kernel
theorem dL_isStore_140 : decode cL_isStore 140 = .ok (.iload_n 1, 1) := by decide +kernel
theorem dL_isStore_141 : decode cL_isStore 141 = .ok (.iload_n 2, 1) := by decide +kernel
theorem dL_isStore_142 : decode cL_isStore 142 = .ok (.iconst 5, 1) := by decide +kernel
theorem dL_isStore_143 : decode cL_isStore 143 = .ok (.invokevirtual 59, 3) := by decide +kernel
theorem dL_isStore_146 : decode cL_isStore 146 = .ok (.iadd, 1) := by decide +kernel
theorem dL_isStore_147 : decode cL_isStore 147 = .ok (.sipush 257, 3) := by decide +kernel
theorem dL_isStore_150 : decode cL_isStore 150 = .ok (.irem, 1) := by decide +kernel
theorem dL_isStore_151 : decode cL_isStore 151 = .ok (.if_icmp .ne 7, 3) := by decide +kernel
theorem dL_isStore_154 : decode cL_isStore 154 = .ok (.iconst 1, 1) := by decide +kernel
theorem dL_isStore_155 : decode cL_isStore 155 = .ok (.goto 4, 3) := by decide +kernel
theorem dL_isStore_158 : decode cL_isStore 158 = .ok (.iconst 0, 1) := by decide +kernel
theorem dL_isStore_159 : decode cL_isStore 159 = .ok (.istore 6, 2) := by decide +kernel
theorem dL_isStore_161 : decode cL_isStore 161 = .ok (.iload 6, 2) := by decide +kernel
theorem dL_isStore_163 : decode cL_isStore 163 = .ok (.ifCond .eq 27, 3) := by decide +kernel
theorem dL_isStore_166 : decode cL_isStore 166 = .ok (.aload_n 0, 1) := by decide +kernel
theorem dL_isStore_167 : decode cL_isStore 167 = .ok (.iload_n 1, 1) := by decide +kernel
theorem dL_isStore_168 : decode cL_isStore 168 = .ok (.iload_n 2, 1) := by decide +kernel
theorem dL_isStore_169 : decode cL_isStore 169 = .ok (.iconst 0, 1) := by decide +kernel
theorem dL_isStore_170 : decode cL_isStore 170 = .ok (.invokevirtual 37, 3) := by decide +kernel
theorem dL_isStore_173 : decode cL_isStore 173 = .ok (.ifCond .ne 17, 3) := by decide +kernel
theorem dL_isStore_176 : decode cL_isStore 176 = .ok (.aload_n 0, 1) := by decide +kernel
theorem dL_isStore_177 : decode cL_isStore 177 = .ok (.iload_n 1, 1) := by decide +kernel
theorem dL_isStore_178 : decode cL_isStore 178 = .ok (.iload_n 2, 1) := by decide +kernel
theorem dL_isStore_179 : decode cL_isStore 179 = .ok (.iconst 0, 1) := by decide +kernel
theorem dL_isStore_180 : decode cL_isStore 180 = .ok (.invokevirtual 62, 3) := by decide +kernel
theorem dL_isStore_183 : decode cL_isStore 183 = .ok (.ifCond .ne 7, 3) := by decide +kernel
theorem dL_isStore_186 : decode cL_isStore 186 = .ok (.iconst 1, 1) := by decide +kernel
theorem dL_isStore_187 : decode cL_isStore 187 = .ok (.goto 4, 3) := by decide +kernel
theorem dL_isStore_190 : decode cL_isStore 190 = .ok (.iconst 0, 1) := by decide +kernel
theorem dL_isStore_191 : decode cL_isStore 191 = .ok (.ireturn, 1) := by decide +kernel
theorem dL_law_0 : decode cL_law 0 = .ok (.new 10, 3) := by decide +kernel
theorem dL_law_3 : decode cL_law 3 = .ok (.dup, 1) := by decide +kernel
theorem dL_law_4 : decode cL_law 4 = .ok (.invokespecial 90, 3) := by decide +kernel
theorem dL_law_7 : decode cL_law 7 = .ok (.astore_n 1, 1) := by decide +kernel
theorem dL_law_8 : decode cL_law 8 = .ok (.bipush 8, 2) := by decide +kernel
theorem dL_law_10 : decode cL_law 10 = .ok (.newarray .int, 2) := by decide +kernel
theorem dL_law_12 : decode cL_law 12 = .ok (.astore_n 2, 1) := by decide +kernel
theorem dL_law_13 : decode cL_law 13 = .ok (.aload_n 1, 1) := by decide +kernel
theorem dL_law_14 : decode cL_law 14 = .ok (.invokevirtual 91, 3) := by decide +kernel
theorem dL_law_17 : decode cL_law 17 = .ok (.bipush (-5), 2) := by decide +kernel
theorem dL_law_19 : decode cL_law 19 = .ok (.if_icmp .ne 15, 3) := by decide +kernel
theorem dL_law_22 : decode cL_law 22 = .ok (.aload_n 1, 1) := by decide +kernel
theorem dL_law_23 : decode cL_law 23 = .ok (.aload_n 2, 1) := by decide +kernel
theorem dL_law_24 : decode cL_law 24 = .ok (.invokestatic 95, 3) := by decide +kernel
theorem dL_law_27 : decode cL_law 27 = .ok (.ifCond .eq 7, 3) := by decide +kernel
theorem dL_law_30 : decode cL_law 30 = .ok (.iconst 1, 1) := by decide +kernel
theorem dL_law_31 : decode cL_law 31 = .ok (.goto 4, 3) := by decide +kernel
theorem dL_law_34 : decode cL_law 34 = .ok (.iconst 0, 1) := by decide +kernel
theorem dL_law_35 : decode cL_law 35 = .ok (.istore_n 3, 1) := by decide +kernel
theorem dL_law_36 : decode cL_law 36 = .ok (.aload_n 0, 1) := by decide +kernel
theorem dL_law_37 : decode cL_law 37 = .ok (.arraylength, 1) := by decide +kernel
theorem dL_law_38 : decode cL_law 38 = .ok (.iconst 3, 1) := by decide +kernel
theorem dL_law_39 : decode cL_law 39 = .ok (.idiv, 1) := by decide +kernel
theorem dL_law_40 : decode cL_law 40 = .ok (.bipush 30, 2) := by decide +kernel
theorem dL_law_42 : decode cL_law 42 = .ok (.if_icmp .le 8, 3) := by decide +kernel
theorem dL_law_45 : decode cL_law 45 = .ok (.bipush 30, 2) := by decide +kernel
theorem dL_law_47 : decode cL_law 47 = .ok (.goto 7, 3) := by decide +kernel
theorem dL_law_50 : decode cL_law 50 = .ok (.aload_n 0, 1) := by decide +kernel
theorem dL_law_51 : decode cL_law 51 = .ok (.arraylength, 1) := by decide +kernel
theorem dL_law_52 : decode cL_law 52 = .ok (.iconst 3, 1) := by decide +kernel
theorem dL_law_53 : decode cL_law 53 = .ok (.idiv, 1) := by decide +kernel
theorem dL_law_54 : decode cL_law 54 = .ok (.istore 4, 2) := by decide +kernel
theorem dL_law_56 : decode cL_law 56 = .ok (.iconst 0, 1) := by decide +kernel
theorem dL_law_57 : decode cL_law 57 = .ok (.istore 5, 2) := by decide +kernel
theorem dL_law_59 : decode cL_law 59 = .ok (.iload 5, 2) := by decide +kernel
theorem dL_law_61 : decode cL_law 61 = .ok (.iload 4, 2) := by decide +kernel
theorem dL_law_63 : decode cL_law 63 = .ok (.if_icmp .ge 300, 3) := by decide +kernel
theorem dL_law_66 : decode cL_law 66 = .ok (.iload_n 3, 1) := by decide +kernel
theorem dL_law_67 : decode cL_law 67 = .ok (.ifCond .eq 296, 3) := by decide +kernel
theorem dL_law_70 : decode cL_law 70 = .ok (.aload_n 0, 1) := by decide +kernel
theorem dL_law_71 : decode cL_law 71 = .ok (.iconst 3, 1) := by decide +kernel
theorem dL_law_72 : decode cL_law 72 = .ok (.iload 5, 2) := by decide +kernel
theorem dL_law_74 : decode cL_law 74 = .ok (.imul, 1) := by decide +kernel
theorem dL_law_75 : decode cL_law 75 = .ok (.invokestatic 99, 3) := by decide +kernel
theorem dL_law_78 : decode cL_law 78 = .ok (.bipush 17, 2) := by decide +kernel
theorem dL_law_80 : decode cL_law 80 = .ok (.invokestatic 15, 3) := by decide +kernel
theorem dL_law_83 : decode cL_law 83 = .ok (.istore 6, 2) := by decide +kernel
theorem dL_law_85 : decode cL_law 85 = .ok (.aload_n 1, 1) := by decide +kernel
theorem dL_law_86 : decode cL_law 86 = .ok (.bipush 15, 2) := by decide +kernel
theorem dL_law_88 : decode cL_law 88 = .ok (.invokevirtual 9, 3) := by decide +kernel
theorem dL_law_91 : decode cL_law 91 = .ok (.istore 7, 2) := by decide +kernel
theorem dL_law_93 : decode cL_law 93 = .ok (.iload 6, 2) := by decide +kernel
theorem dL_law_95 : decode cL_law 95 = .ok (.bipush 10, 2) := by decide +kernel
theorem dL_law_97 : decode cL_law 97 = .ok (.if_icmp .eq 10, 3) := by decide +kernel
theorem dL_law_100 : decode cL_law 100 = .ok (.iload 6, 2) := by decide +kernel
theorem dL_law_102 : decode cL_law 102 = .ok (.bipush 11, 2) := by decide +kernel
theorem dL_law_104 : decode cL_law 104 = .ok (.if_icmp .ne 30, 3) := by decide +kernel
theorem dL_law_107 : decode cL_law 107 = .ok (.aload_n 1, 1) := by decide +kernel
theorem dL_law_108 : decode cL_law 108 = .ok (.aload_n 0, 1) := by decide +kernel
theorem dL_law_109 : decode cL_law 109 = .ok (.iconst 3, 1) := by decide +kernel
theorem dL_law_110 : decode cL_law 110 = .ok (.iload 5, 2) := by decide +kernel
theorem dL_law_112 : decode cL_law 112 = .ok (.imul, 1) := by decide +kernel
theorem dL_law_113 : decode cL_law 113 = .ok (.iconst 1, 1) := by decide +kernel
theorem dL_law_114 : decode cL_law 114 = .ok (.iadd, 1) := by decide +kernel
theorem dL_law_115 : decode cL_law 115 = .ok (.invokestatic 99, 3) := by decide +kernel
theorem dL_law_118 : decode cL_law 118 = .ok (.aload_n 1, 1) := by decide +kernel
theorem dL_law_119 : decode cL_law 119 = .ok (.iconst 1, 1) := by decide +kernel
theorem dL_law_120 : decode cL_law 120 = .ok (.invokevirtual 9, 3) := by decide +kernel
theorem dL_law_123 : decode cL_law 123 = .ok (.iconst 1, 1) := by decide +kernel
theorem dL_law_124 : decode cL_law 124 = .ok (.iadd, 1) := by decide +kernel
theorem dL_law_125 : decode cL_law 125 = .ok (.invokestatic 15, 3) := by decide +kernel
theorem dL_law_128 : decode cL_law 128 = .ok (.invokevirtual 81, 3) := by decide +kernel
theorem dL_law_131 : decode cL_law 131 = .ok (.goto 4, 3) := by decide +kernel
theorem dL_law_134 : decode cL_law 134 = .ok (.iconst 0, 1) := by decide +kernel
theorem dL_law_135 : decode cL_law 135 = .ok (.istore 8, 2) := by decide +kernel
theorem dL_law_137 : decode cL_law 137 = .ok (.aload_n 1, 1) := by decide +kernel
theorem dL_law_138 : decode cL_law 138 = .ok (.aload_n 2, 1) := by decide +kernel
theorem dL_law_139 : decode cL_law 139 = .ok (.iload 6, 2) := by decide +kernel
theorem dL_law_141 : decode cL_law 141 = .ok (.aload_n 0, 1) := by decide +kernel
theorem dL_law_142 : decode cL_law 142 = .ok (.iconst 3, 1) := by decide +kernel
theorem dL_law_143 : decode cL_law 143 = .ok (.iload 5, 2) := by decide +kernel
theorem dL_law_145 : decode cL_law 145 = .ok (.imul, 1) := by decide +kernel
theorem dL_law_146 : decode cL_law 146 = .ok (.iconst 1, 1) := by decide +kernel
theorem dL_law_147 : decode cL_law 147 = .ok (.iadd, 1) := by decide +kernel
theorem dL_law_148 : decode cL_law 148 = .ok (.invokestatic 99, 3) := by decide +kernel
theorem dL_law_151 : decode cL_law 151 = .ok (.aload_n 0, 1) := by decide +kernel
theorem dL_law_152 : decode cL_law 152 = .ok (.iconst 3, 1) := by decide +kernel
theorem dL_law_153 : decode cL_law 153 = .ok (.iload 5, 2) := by decide +kernel
theorem dL_law_155 : decode cL_law 155 = .ok (.imul, 1) := by decide +kernel
theorem dL_law_156 : decode cL_law 156 = .ok (.iconst 2, 1) := by decide +kernel
theorem dL_law_157 : decode cL_law 157 = .ok (.iadd, 1) := by decide +kernel
theorem dL_law_158 : decode cL_law 158 = .ok (.invokestatic 99, 3) := by decide +kernel
theorem dL_law_161 : decode cL_law 161 = .ok (.invokestatic 103, 3) := by decide +kernel
theorem dL_law_164 : decode cL_law 164 = .ok (.istore 9, 2) := by decide +kernel
theorem dL_law_166 : decode cL_law 166 = .ok (.aload_n 1, 1) := by decide +kernel
theorem dL_law_167 : decode cL_law 167 = .ok (.bipush 15, 2) := by decide +kernel
theorem dL_law_169 : decode cL_law 169 = .ok (.invokevirtual 9, 3) := by decide +kernel
theorem dL_law_172 : decode cL_law 172 = .ok (.iload 9, 2) := by decide +kernel
theorem dL_law_174 : decode cL_law 174 = .ok (.ifCond .ge 8, 3) := by decide +kernel
theorem dL_law_177 : decode cL_law 177 = .ok (.iload 7, 2) := by decide +kernel
theorem dL_law_179 : decode cL_law 179 = .ok (.goto 19, 3) := by decide +kernel
theorem dL_law_182 : decode cL_law 182 = .ok (.iload 7, 2) := by decide +kernel
theorem dL_law_184 : decode cL_law 184 = .ok (.bipush 6, 2) := by decide +kernel
theorem dL_law_186 : decode cL_law 186 = .ok (.if_icmp .ne 8, 3) := by decide +kernel
theorem dL_law_189 : decode cL_law 189 = .ok (.bipush 6, 2) := by decide +kernel
theorem dL_law_191 : decode cL_law 191 = .ok (.goto 7, 3) := by decide +kernel
theorem dL_law_194 : decode cL_law 194 = .ok (.iload 7, 2) := by decide +kernel
theorem dL_law_196 : decode cL_law 196 = .ok (.iconst 1, 1) := by decide +kernel
theorem dL_law_197 : decode cL_law 197 = .ok (.iadd, 1) := by decide +kernel
theorem dL_law_198 : decode cL_law 198 = .ok (.if_icmp .ne 36, 3) := by decide +kernel
theorem dL_law_201 : decode cL_law 201 = .ok (.iload 6, 2) := by decide +kernel
theorem dL_law_203 : decode cL_law 203 = .ok (.bipush 10, 2) := by decide +kernel
theorem dL_law_205 : decode cL_law 205 = .ok (.if_icmp .eq 10, 3) := by decide +kernel
theorem dL_law_208 : decode cL_law 208 = .ok (.iload 6, 2) := by decide +kernel
theorem dL_law_210 : decode cL_law 210 = .ok (.bipush 11, 2) := by decide +kernel
theorem dL_law_212 : decode cL_law 212 = .ok (.if_icmp .ne 10, 3) := by decide +kernel
theorem dL_law_215 : decode cL_law 215 = .ok (.iload 9, 2) := by decide +kernel
theorem dL_law_217 : decode cL_law 217 = .ok (.iload 8, 2) := by decide +kernel
theorem dL_law_219 : decode cL_law 219 = .ok (.if_icmp .ne 15, 3) := by decide +kernel
theorem dL_law_222 : decode cL_law 222 = .ok (.aload_n 1, 1) := by decide +kernel
theorem dL_law_223 : decode cL_law 223 = .ok (.aload_n 2, 1) := by decide +kernel
theorem dL_law_224 : decode cL_law 224 = .ok (.invokestatic 95, 3) := by decide +kernel
theorem dL_law_227 : decode cL_law 227 = .ok (.ifCond .eq 7, 3) := by decide +kernel
theorem dL_law_230 : decode cL_law 230 = .ok (.iconst 1, 1) := by decide +kernel
theorem dL_law_231 : decode cL_law 231 = .ok (.goto 4, 3) := by decide +kernel
theorem dL_law_234 : decode cL_law 234 = .ok (.iconst 0, 1) := by decide +kernel
theorem dL_law_235 : decode cL_law 235 = .ok (.istore_n 3, 1) := by decide +kernel
theorem dL_law_236 : decode cL_law 236 = .ok (.iload_n 3, 1) := by decide +kernel
theorem dL_law_237 : decode cL_law 237 = .ok (.ifCond .eq 120, 3) := by decide +kernel
theorem dL_law_240 : decode cL_law 240 = .ok (.iload 9, 2) := by decide +kernel
theorem dL_law_242 : decode cL_law 242 = .ok (.ifCond .lt 115, 3) := by decide +kernel
theorem dL_law_245 : decode cL_law 245 = .ok (.iload 5, 2) := by decide +kernel
theorem dL_law_247 : decode cL_law 247 = .ok (.iconst 5, 1) := by decide +kernel
theorem dL_law_248 : decode cL_law 248 = .ok (.irem, 1) := by decide +kernel
theorem dL_law_249 : decode cL_law 249 = .ok (.iconst 4, 1) := by decide +kernel
theorem dL_law_250 : decode cL_law 250 = .ok (.if_icmp .ne 107, 3) := by decide +kernel
theorem dL_law_253 : decode cL_law 253 = .ok (.aload_n 1, 1) := by decide +kernel
theorem dL_law_254 : decode cL_law 254 = .ok (.bipush 10, 2) := by decide +kernel
theorem dL_law_256 : decode cL_law 256 = .ok (.invokevirtual 9, 3) := by decide +kernel
theorem dL_law_259 : decode cL_law 259 = .ok (.istore 10, 2) := by decide +kernel
theorem dL_law_261 : decode cL_law 261 = .ok (.aload_n 1, 1) := by decide +kernel
theorem dL_law_262 : decode cL_law 262 = .ok (.bipush 6, 2) := by decide +kernel
theorem dL_law_264 : decode cL_law 264 = .ok (.invokevirtual 9, 3) := by decide +kernel
theorem dL_law_267 : decode cL_law 267 = .ok (.istore 11, 2) := by decide +kernel
theorem dL_law_269 : decode cL_law 269 = .ok (.aload_n 1, 1) := by decide +kernel
theorem dL_law_270 : decode cL_law 270 = .ok (.invokevirtual 91, 3) := by decide +kernel
theorem dL_law_273 : decode cL_law 273 = .ok (.iload 7, 2) := by decide +kernel
theorem dL_law_275 : decode cL_law 275 = .ok (.bipush 6, 2) := by decide +kernel
theorem dL_law_277 : decode cL_law 277 = .ok (.if_icmp .ne 7, 3) := by decide +kernel
theorem dL_law_280 : decode cL_law 280 = .ok (.iconst 5, 1) := by decide +kernel
theorem dL_law_281 : decode cL_law 281 = .ok (.goto 5, 3) := by decide +kernel
theorem dL_law_284 : decode cL_law 284 = .ok (.iload 7, 2) := by decide +kernel
theorem dL_law_286 : decode cL_law 286 = .ok (.if_icmp .ne 69, 3) := by decide +kernel
theorem dL_law_289 : decode cL_law 289 = .ok (.aload_n 1, 1) := by decide +kernel
theorem dL_law_290 : decode cL_law 290 = .ok (.aload_n 2, 1) := by decide +kernel
theorem dL_law_291 : decode cL_law 291 = .ok (.invokestatic 95, 3) := by decide +kernel
theorem dL_law_294 : decode cL_law 294 = .ok (.ifCond .eq 61, 3) := by decide +kernel
theorem dL_law_297 : decode cL_law 297 = .ok (.aload_n 1, 1) := by decide +kernel
theorem dL_law_298 : decode cL_law 298 = .ok (.aload_n 2, 1) := by decide +kernel
theorem dL_law_299 : decode cL_law 299 = .ok (.iload 6, 2) := by decide +kernel
theorem dL_law_301 : decode cL_law 301 = .ok (.aload_n 0, 1) := by decide +kernel
theorem dL_law_302 : decode cL_law 302 = .ok (.iconst 3, 1) := by decide +kernel
theorem dL_law_303 : decode cL_law 303 = .ok (.iload 5, 2) := by decide +kernel
theorem dL_law_305 : decode cL_law 305 = .ok (.imul, 1) := by decide +kernel
theorem dL_law_306 : decode cL_law 306 = .ok (.iconst 1, 1) := by decide +kernel
theorem dL_law_307 : decode cL_law 307 = .ok (.iadd, 1) := by decide +kernel
theorem dL_law_308 : decode cL_law 308 = .ok (.invokestatic 99, 3) := by decide +kernel
theorem dL_law_311 : decode cL_law 311 = .ok (.aload_n 0, 1) := by decide +kernel
theorem dL_law_312 : decode cL_law 312 = .ok (.iconst 3, 1) := by decide +kernel
theorem dL_law_313 : decode cL_law 313 = .ok (.iload 5, 2) := by decide +kernel
theorem dL_law_315 : decode cL_law 315 = .ok (.imul, 1) := by decide +kernel
theorem dL_law_316 : decode cL_law 316 = .ok (.iconst 2, 1) := by decide +kernel
theorem dL_law_317 : decode cL_law 317 = .ok (.iadd, 1) := by decide +kernel
theorem dL_law_318 : decode cL_law 318 = .ok (.invokestatic 99, 3) := by decide +kernel
theorem dL_law_321 : decode cL_law 321 = .ok (.invokestatic 103, 3) := by decide +kernel
theorem dL_law_324 : decode cL_law 324 = .ok (.iload 9, 2) := by decide +kernel
theorem dL_law_326 : decode cL_law 326 = .ok (.if_icmp .ne 29, 3) := by decide +kernel
theorem dL_law_329 : decode cL_law 329 = .ok (.aload_n 1, 1) := by decide +kernel
theorem dL_law_330 : decode cL_law 330 = .ok (.bipush 10, 2) := by decide +kernel
theorem dL_law_332 : decode cL_law 332 = .ok (.invokevirtual 9, 3) := by decide +kernel
theorem dL_law_335 : decode cL_law 335 = .ok (.iload 10, 2) := by decide +kernel
theorem dL_law_337 : decode cL_law 337 = .ok (.if_icmp .ne 18, 3) := by decide +kernel
theorem dL_law_340 : decode cL_law 340 = .ok (.aload_n 1, 1) := by decide +kernel
theorem dL_law_341 : decode cL_law 341 = .ok (.bipush 6, 2) := by decide +kernel
theorem dL_law_343 : decode cL_law 343 = .ok (.invokevirtual 9, 3) := by decide +kernel
theorem dL_law_346 : decode cL_law 346 = .ok (.iload 11, 2) := by decide +kernel
theorem dL_law_348 : decode cL_law 348 = .ok (.if_icmp .ne 7, 3) := by decide +kernel
theorem dL_law_351 : decode cL_law 351 = .ok (.iconst 1, 1) := by decide +kernel
theorem dL_law_352 : decode cL_law 352 = .ok (.goto 4, 3) := by decide +kernel
theorem dL_law_355 : decode cL_law 355 = .ok (.iconst 0, 1) := by decide +kernel
theorem dL_law_356 : decode cL_law 356 = .ok (.istore_n 3, 1) := by decide +kernel
theorem dL_law_357 : decode cL_law 357 = .ok (.iinc 5 1, 3) := by decide +kernel
theorem dL_law_360 : decode cL_law 360 = .ok (.goto (-301), 3) := by decide +kernel
theorem dL_law_363 : decode cL_law 363 = .ok (.iload_n 3, 1) := by decide +kernel
theorem dL_law_364 : decode cL_law 364 = .ok (.ireturn, 1) := by decide +kernel
theorem dL_low_0 : decode cL_low 0 = .ok (.iload_n 0, 1) := by decide +kernel
theorem dL_low_1 : decode cL_low 1 = .ok (.ldc 8, 2) := by decide +kernel
theorem dL_low_3 : decode cL_low 3 = .ok (.iand, 1) := by decide +kernel
theorem dL_low_4 : decode cL_low 4 = .ok (.iload_n 1, 1) := by decide +kernel
theorem dL_low_5 : decode cL_low 5 = .ok (.irem, 1) := by decide +kernel
theorem dL_low_6 : decode cL_low 6 = .ok (.ireturn, 1) := by decide +kernel
