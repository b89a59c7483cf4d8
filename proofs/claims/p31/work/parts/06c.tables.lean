-- L_isSo
theorem dL_isSo_0 : decode cL_isSo 0 = .ok (.bipush 12, 2) := by decide +kernel
theorem dL_isSo_2 : decode cL_isSo 2 = .ok (.newarray .int, 2) := by decide +kernel
theorem dL_isSo_4 : decode cL_isSo 4 = .ok (.astore 5, 2) := by decide +kernel
theorem dL_isSo_6 : decode cL_isSo 6 = .ok (.bipush 12, 2) := by decide +kernel
theorem dL_isSo_8 : decode cL_isSo 8 = .ok (.newarray .int, 2) := by decide +kernel
theorem dL_isSo_10 : decode cL_isSo 10 = .ok (.astore 6, 2) := by decide +kernel
theorem dL_isSo_12 : decode cL_isSo 12 = .ok (.bipush 12, 2) := by decide +kernel
theorem dL_isSo_14 : decode cL_isSo 14 = .ok (.newarray .int, 2) := by decide +kernel
theorem dL_isSo_16 : decode cL_isSo 16 = .ok (.astore 7, 2) := by decide +kernel
theorem dL_isSo_18 : decode cL_isSo 18 = .ok (.bipush 12, 2) := by decide +kernel
theorem dL_isSo_20 : decode cL_isSo 20 = .ok (.newarray .int, 2) := by decide +kernel
theorem dL_isSo_22 : decode cL_isSo 22 = .ok (.astore 8, 2) := by decide +kernel
theorem dL_isSo_24 : decode cL_isSo 24 = .ok (.aload_n 1, 1) := by decide +kernel
theorem dL_isSo_25 : decode cL_isSo 25 = .ok (.aload_n 2, 1) := by decide +kernel
theorem dL_isSo_26 : decode cL_isSo 26 = .ok (.aload_n 3, 1) := by decide +kernel
theorem dL_isSo_27 : decode cL_isSo 27 = .ok (.aload 4, 2) := by decide +kernel
theorem dL_isSo_29 : decode cL_isSo 29 = .ok (.aload 5, 2) := by decide +kernel
theorem dL_isSo_31 : decode cL_isSo 31 = .ok (.aload 6, 2) := by decide +kernel
theorem dL_isSo_33 : decode cL_isSo 33 = .ok (.aload 7, 2) := by decide +kernel
theorem dL_isSo_35 : decode cL_isSo 35 = .ok (.invokestatic 92, 3) := by decide +kernel
theorem dL_isSo_38 : decode cL_isSo 38 = .ok (.istore 9, 2) := by decide +kernel
theorem dL_isSo_40 : decode cL_isSo 40 = .ok (.aload_n 1, 1) := by decide +kernel
theorem dL_isSo_41 : decode cL_isSo 41 = .ok (.aload_n 3, 1) := by decide +kernel
theorem dL_isSo_42 : decode cL_isSo 42 = .ok (.aload 8, 2) := by decide +kernel
theorem dL_isSo_44 : decode cL_isSo 44 = .ok (.invokestatic 39, 3) := by decide +kernel
theorem dL_isSo_47 : decode cL_isSo 47 = .ok (.iconst 0, 1) := by decide +kernel
theorem dL_isSo_48 : decode cL_isSo 48 = .ok (.istore 10, 2) := by decide +kernel
theorem dL_isSo_50 : decode cL_isSo 50 = .ok (.iconst 0, 1) := by decide +kernel
theorem dL_isSo_51 : decode cL_isSo 51 = .ok (.istore 11, 2) := by decide +kernel
theorem dL_isSo_53 : decode cL_isSo 53 = .ok (.iconst 0, 1) := by decide +kernel
theorem dL_isSo_54 : decode cL_isSo 54 = .ok (.istore 12, 2) := by decide +kernel
theorem dL_isSo_56 : decode cL_isSo 56 = .ok (.iconst 1, 1) := by decide +kernel
theorem dL_isSo_57 : decode cL_isSo 57 = .ok (.istore 13, 2) := by decide +kernel
theorem dL_isSo_59 : decode cL_isSo 59 = .ok (.iconst 0, 1) := by decide +kernel
theorem dL_isSo_60 : decode cL_isSo 60 = .ok (.istore 14, 2) := by decide +kernel
theorem dL_isSo_62 : decode cL_isSo 62 = .ok (.iload 14, 2) := by decide +kernel
theorem dL_isSo_64 : decode cL_isSo 64 = .ok (.aload_n 1, 1) := by decide +kernel
theorem dL_isSo_65 : decode cL_isSo 65 = .ok (.bipush 9, 2) := by decide +kernel
theorem dL_isSo_67 : decode cL_isSo 67 = .ok (.iaload, 1) := by decide +kernel
theorem dL_isSo_68 : decode cL_isSo 68 = .ok (.if_icmp .ge 329, 3) := by decide +kernel
theorem dL_isSo_71 : decode cL_isSo 71 = .ok (.iload 13, 2) := by decide +kernel
theorem dL_isSo_73 : decode cL_isSo 73 = .ok (.ifCond .eq 324, 3) := by decide +kernel
theorem dL_isSo_76 : decode cL_isSo 76 = .ok (.aload 8, 2) := by decide +kernel
theorem dL_isSo_78 : decode cL_isSo 78 = .ok (.iload 14, 2) := by decide +kernel
theorem dL_isSo_80 : decode cL_isSo 80 = .ok (.iaload, 1) := by decide +kernel
theorem dL_isSo_81 : decode cL_isSo 81 = .ok (.istore 15, 2) := by decide +kernel
theorem dL_isSo_83 : decode cL_isSo 83 = .ok (.iconst 0, 1) := by decide +kernel
theorem dL_isSo_84 : decode cL_isSo 84 = .ok (.istore 16, 2) := by decide +kernel
theorem dL_isSo_86 : decode cL_isSo 86 = .ok (.iconst 0, 1) := by decide +kernel
theorem dL_isSo_87 : decode cL_isSo 87 = .ok (.istore 17, 2) := by decide +kernel
theorem dL_isSo_89 : decode cL_isSo 89 = .ok (.iconst 0, 1) := by decide +kernel
theorem dL_isSo_90 : decode cL_isSo 90 = .ok (.istore 18, 2) := by decide +kernel
theorem dL_isSo_92 : decode cL_isSo 92 = .ok (.iload 18, 2) := by decide +kernel
theorem dL_isSo_94 : decode cL_isSo 94 = .ok (.aload_n 1, 1) := by decide +kernel
theorem dL_isSo_95 : decode cL_isSo 95 = .ok (.bipush 9, 2) := by decide +kernel
theorem dL_isSo_97 : decode cL_isSo 97 = .ok (.iaload, 1) := by decide +kernel
theorem dL_isSo_98 : decode cL_isSo 98 = .ok (.if_icmp .ge 29, 3) := by decide +kernel
theorem dL_isSo_101 : decode cL_isSo 101 = .ok (.iload 16, 2) := by decide +kernel
theorem dL_isSo_103 : decode cL_isSo 103 = .ok (.aload 5, 2) := by decide +kernel
theorem dL_isSo_105 : decode cL_isSo 105 = .ok (.iload 18, 2) := by decide +kernel
theorem dL_isSo_107 : decode cL_isSo 107 = .ok (.iaload, 1) := by decide +kernel
theorem dL_isSo_108 : decode cL_isSo 108 = .ok (.iload 15, 2) := by decide +kernel
theorem dL_isSo_110 : decode cL_isSo 110 = .ok (.if_icmp .ne 7, 3) := by decide +kernel
theorem dL_isSo_113 : decode cL_isSo 113 = .ok (.iconst 1, 1) := by decide +kernel
theorem dL_isSo_114 : decode cL_isSo 114 = .ok (.goto 4, 3) := by decide +kernel
theorem dL_isSo_117 : decode cL_isSo 117 = .ok (.iconst 0, 1) := by decide +kernel
theorem dL_isSo_118 : decode cL_isSo 118 = .ok (.iadd, 1) := by decide +kernel
theorem dL_isSo_119 : decode cL_isSo 119 = .ok (.istore 16, 2) := by decide +kernel
theorem dL_isSo_121 : decode cL_isSo 121 = .ok (.iinc 18 1, 3) := by decide +kernel
theorem dL_isSo_124 : decode cL_isSo 124 = .ok (.goto (-32), 3) := by decide +kernel
theorem dL_isSo_127 : decode cL_isSo 127 = .ok (.iconst 0, 1) := by decide +kernel
theorem dL_isSo_128 : decode cL_isSo 128 = .ok (.istore 18, 2) := by decide +kernel
theorem dL_isSo_130 : decode cL_isSo 130 = .ok (.iload 18, 2) := by decide +kernel
theorem dL_isSo_132 : decode cL_isSo 132 = .ok (.bipush 12, 2) := by decide +kernel
theorem dL_isSo_134 : decode cL_isSo 134 = .ok (.if_icmp .ge 35, 3) := by decide +kernel
theorem dL_isSo_137 : decode cL_isSo 137 = .ok (.iload 17, 2) := by decide +kernel
theorem dL_isSo_139 : decode cL_isSo 139 = .ok (.aload_n 1, 1) := by decide +kernel
theorem dL_isSo_140 : decode cL_isSo 140 = .ok (.aload_n 2, 1) := by decide +kernel
theorem dL_isSo_141 : decode cL_isSo 141 = .ok (.aload_n 3, 1) := by decide +kernel
theorem dL_isSo_142 : decode cL_isSo 142 = .ok (.iload 15, 2) := by decide +kernel
theorem dL_isSo_144 : decode cL_isSo 144 = .ok (.iload 18, 2) := by decide +kernel
theorem dL_isSo_146 : decode cL_isSo 146 = .ok (.invokestatic 15, 3) := by decide +kernel
theorem dL_isSo_149 : decode cL_isSo 149 = .ok (.ifCond .eq 10, 3) := by decide +kernel
theorem dL_isSo_152 : decode cL_isSo 152 = .ok (.iconst 1, 1) := by decide +kernel
theorem dL_isSo_153 : decode cL_isSo 153 = .ok (.iload 18, 2) := by decide +kernel
theorem dL_isSo_155 : decode cL_isSo 155 = .ok (.ishl, 1) := by decide +kernel
theorem dL_isSo_156 : decode cL_isSo 156 = .ok (.goto 4, 3) := by decide +kernel
theorem dL_isSo_159 : decode cL_isSo 159 = .ok (.iconst 0, 1) := by decide +kernel
theorem dL_isSo_160 : decode cL_isSo 160 = .ok (.ior, 1) := by decide +kernel
theorem dL_isSo_161 : decode cL_isSo 161 = .ok (.istore 17, 2) := by decide +kernel
theorem dL_isSo_163 : decode cL_isSo 163 = .ok (.iinc 18 1, 3) := by decide +kernel
theorem dL_isSo_166 : decode cL_isSo 166 = .ok (.goto (-36), 3) := by decide +kernel
theorem dL_isSo_169 : decode cL_isSo 169 = .ok (.iload 10, 2) := by decide +kernel
theorem dL_isSo_171 : decode cL_isSo 171 = .ok (.aload 5, 2) := by decide +kernel
theorem dL_isSo_173 : decode cL_isSo 173 = .ok (.iload 15, 2) := by decide +kernel
theorem dL_isSo_175 : decode cL_isSo 175 = .ok (.iaload, 1) := by decide +kernel
theorem dL_isSo_176 : decode cL_isSo 176 = .ok (.ifCond .ge 7, 3) := by decide +kernel
theorem dL_isSo_179 : decode cL_isSo 179 = .ok (.iconst 1, 1) := by decide +kernel
theorem dL_isSo_180 : decode cL_isSo 180 = .ok (.goto 4, 3) := by decide +kernel
theorem dL_isSo_183 : decode cL_isSo 183 = .ok (.iconst 0, 1) := by decide +kernel
theorem dL_isSo_184 : decode cL_isSo 184 = .ok (.iadd, 1) := by decide +kernel
theorem dL_isSo_185 : decode cL_isSo 185 = .ok (.istore 10, 2) := by decide +kernel
theorem dL_isSo_187 : decode cL_isSo 187 = .ok (.iload 11, 2) := by decide +kernel
theorem dL_isSo_189 : decode cL_isSo 189 = .ok (.aload 7, 2) := by decide +kernel
theorem dL_isSo_191 : decode cL_isSo 191 = .ok (.iload 15, 2) := by decide +kernel
theorem dL_isSo_193 : decode cL_isSo 193 = .ok (.iaload, 1) := by decide +kernel
theorem dL_isSo_194 : decode cL_isSo 194 = .ok (.iadd, 1) := by decide +kernel
theorem dL_isSo_195 : decode cL_isSo 195 = .ok (.istore 11, 2) := by decide +kernel
theorem dL_isSo_197 : decode cL_isSo 197 = .ok (.iload 12, 2) := by decide +kernel
theorem dL_isSo_199 : decode cL_isSo 199 = .ok (.aload_n 1, 1) := by decide +kernel
theorem dL_isSo_200 : decode cL_isSo 200 = .ok (.aload 4, 2) := by decide +kernel
theorem dL_isSo_202 : decode cL_isSo 202 = .ok (.iload 15, 2) := by decide +kernel
theorem dL_isSo_204 : decode cL_isSo 204 = .ok (.invokestatic 31, 3) := by decide +kernel
theorem dL_isSo_207 : decode cL_isSo 207 = .ok (.ifCond .ge 7, 3) := by decide +kernel
theorem dL_isSo_210 : decode cL_isSo 210 = .ok (.iconst 0, 1) := by decide +kernel
theorem dL_isSo_211 : decode cL_isSo 211 = .ok (.goto 4, 3) := by decide +kernel
theorem dL_isSo_214 : decode cL_isSo 214 = .ok (.iconst 1, 1) := by decide +kernel
theorem dL_isSo_215 : decode cL_isSo 215 = .ok (.iadd, 1) := by decide +kernel
theorem dL_isSo_216 : decode cL_isSo 216 = .ok (.istore 12, 2) := by decide +kernel
theorem dL_isSo_218 : decode cL_isSo 218 = .ok (.aload_n 0, 1) := by decide +kernel
theorem dL_isSo_219 : decode cL_isSo 219 = .ok (.iload 14, 2) := by decide +kernel
theorem dL_isSo_221 : decode cL_isSo 221 = .ok (.invokevirtual 96, 3) := by decide +kernel
theorem dL_isSo_224 : decode cL_isSo 224 = .ok (.iload 15, 2) := by decide +kernel
theorem dL_isSo_226 : decode cL_isSo 226 = .ok (.if_icmp .ne 162, 3) := by decide +kernel
theorem dL_isSo_229 : decode cL_isSo 229 = .ok (.aload_n 0, 1) := by decide +kernel
theorem dL_isSo_230 : decode cL_isSo 230 = .ok (.iload 15, 2) := by decide +kernel
theorem dL_isSo_232 : decode cL_isSo 232 = .ok (.iconst 0, 1) := by decide +kernel
theorem dL_isSo_233 : decode cL_isSo 233 = .ok (.invokevirtual 99, 3) := by decide +kernel
theorem dL_isSo_236 : decode cL_isSo 236 = .ok (.aload_n 3, 1) := by decide +kernel
theorem dL_isSo_237 : decode cL_isSo 237 = .ok (.iconst 4, 1) := by decide +kernel
theorem dL_isSo_238 : decode cL_isSo 238 = .ok (.iload 15, 2) := by decide +kernel
theorem dL_isSo_240 : decode cL_isSo 240 = .ok (.imul, 1) := by decide +kernel
theorem dL_isSo_241 : decode cL_isSo 241 = .ok (.iaload, 1) := by decide +kernel
theorem dL_isSo_242 : decode cL_isSo 242 = .ok (.if_icmp .ne 146, 3) := by decide +kernel
theorem dL_isSo_245 : decode cL_isSo 245 = .ok (.aload_n 0, 1) := by decide +kernel
theorem dL_isSo_246 : decode cL_isSo 246 = .ok (.iload 15, 2) := by decide +kernel
theorem dL_isSo_248 : decode cL_isSo 248 = .ok (.iconst 1, 1) := by decide +kernel
theorem dL_isSo_249 : decode cL_isSo 249 = .ok (.invokevirtual 99, 3) := by decide +kernel
theorem dL_isSo_252 : decode cL_isSo 252 = .ok (.aload_n 3, 1) := by decide +kernel
theorem dL_isSo_253 : decode cL_isSo 253 = .ok (.iconst 4, 1) := by decide +kernel
theorem dL_isSo_254 : decode cL_isSo 254 = .ok (.iload 15, 2) := by decide +kernel
theorem dL_isSo_256 : decode cL_isSo 256 = .ok (.imul, 1) := by decide +kernel
theorem dL_isSo_257 : decode cL_isSo 257 = .ok (.iconst 1, 1) := by decide +kernel
theorem dL_isSo_258 : decode cL_isSo 258 = .ok (.iadd, 1) := by decide +kernel
theorem dL_isSo_259 : decode cL_isSo 259 = .ok (.iaload, 1) := by decide +kernel
theorem dL_isSo_260 : decode cL_isSo 260 = .ok (.if_icmp .ne 128, 3) := by decide +kernel
theorem dL_isSo_263 : decode cL_isSo 263 = .ok (.aload_n 0, 1) := by decide +kernel
theorem dL_isSo_264 : decode cL_isSo 264 = .ok (.iload 15, 2) := by decide +kernel
theorem dL_isSo_266 : decode cL_isSo 266 = .ok (.iconst 2, 1) := by decide +kernel
theorem dL_isSo_267 : decode cL_isSo 267 = .ok (.invokevirtual 99, 3) := by decide +kernel
theorem dL_isSo_270 : decode cL_isSo 270 = .ok (.aload_n 3, 1) := by decide +kernel
theorem dL_isSo_271 : decode cL_isSo 271 = .ok (.iconst 4, 1) := by decide +kernel
theorem dL_isSo_272 : decode cL_isSo 272 = .ok (.iload 15, 2) := by decide +kernel
theorem dL_isSo_274 : decode cL_isSo 274 = .ok (.imul, 1) := by decide +kernel
theorem dL_isSo_275 : decode cL_isSo 275 = .ok (.iconst 2, 1) := by decide +kernel
theorem dL_isSo_276 : decode cL_isSo 276 = .ok (.iadd, 1) := by decide +kernel
theorem dL_isSo_277 : decode cL_isSo 277 = .ok (.iaload, 1) := by decide +kernel
theorem dL_isSo_278 : decode cL_isSo 278 = .ok (.if_icmp .ne 110, 3) := by decide +kernel
theorem dL_isSo_281 : decode cL_isSo 281 = .ok (.aload_n 0, 1) := by decide +kernel
theorem dL_isSo_282 : decode cL_isSo 282 = .ok (.iload 15, 2) := by decide +kernel
theorem dL_isSo_284 : decode cL_isSo 284 = .ok (.iconst 3, 1) := by decide +kernel
theorem dL_isSo_285 : decode cL_isSo 285 = .ok (.invokevirtual 99, 3) := by decide +kernel
theorem dL_isSo_288 : decode cL_isSo 288 = .ok (.aload_n 3, 1) := by decide +kernel
theorem dL_isSo_289 : decode cL_isSo 289 = .ok (.iconst 4, 1) := by decide +kernel
theorem dL_isSo_290 : decode cL_isSo 290 = .ok (.iload 15, 2) := by decide +kernel
theorem dL_isSo_292 : decode cL_isSo 292 = .ok (.imul, 1) := by decide +kernel
theorem dL_isSo_293 : decode cL_isSo 293 = .ok (.iconst 3, 1) := by decide +kernel
theorem dL_isSo_294 : decode cL_isSo 294 = .ok (.iadd, 1) := by decide +kernel
theorem dL_isSo_295 : decode cL_isSo 295 = .ok (.iaload, 1) := by decide +kernel
theorem dL_isSo_296 : decode cL_isSo 296 = .ok (.if_icmp .ne 92, 3) := by decide +kernel
theorem dL_isSo_299 : decode cL_isSo 299 = .ok (.aload_n 0, 1) := by decide +kernel
theorem dL_isSo_300 : decode cL_isSo 300 = .ok (.iload 15, 2) := by decide +kernel
theorem dL_isSo_302 : decode cL_isSo 302 = .ok (.iconst 4, 1) := by decide +kernel
theorem dL_isSo_303 : decode cL_isSo 303 = .ok (.invokevirtual 99, 3) := by decide +kernel
theorem dL_isSo_306 : decode cL_isSo 306 = .ok (.iload 14, 2) := by decide +kernel
theorem dL_isSo_308 : decode cL_isSo 308 = .ok (.if_icmp .ne 80, 3) := by decide +kernel
theorem dL_isSo_311 : decode cL_isSo 311 = .ok (.aload_n 0, 1) := by decide +kernel
theorem dL_isSo_312 : decode cL_isSo 312 = .ok (.iload 15, 2) := by decide +kernel
theorem dL_isSo_314 : decode cL_isSo 314 = .ok (.iconst 5, 1) := by decide +kernel
theorem dL_isSo_315 : decode cL_isSo 315 = .ok (.invokevirtual 99, 3) := by decide +kernel
theorem dL_isSo_318 : decode cL_isSo 318 = .ok (.aload 6, 2) := by decide +kernel
theorem dL_isSo_320 : decode cL_isSo 320 = .ok (.iload 15, 2) := by decide +kernel
theorem dL_isSo_322 : decode cL_isSo 322 = .ok (.iaload, 1) := by decide +kernel
theorem dL_isSo_323 : decode cL_isSo 323 = .ok (.if_icmp .ne 65, 3) := by decide +kernel
theorem dL_isSo_326 : decode cL_isSo 326 = .ok (.aload_n 0, 1) := by decide +kernel
theorem dL_isSo_327 : decode cL_isSo 327 = .ok (.iload 15, 2) := by decide +kernel
theorem dL_isSo_329 : decode cL_isSo 329 = .ok (.bipush 6, 2) := by decide +kernel
theorem dL_isSo_331 : decode cL_isSo 331 = .ok (.invokevirtual 99, 3) := by decide +kernel
theorem dL_isSo_334 : decode cL_isSo 334 = .ok (.aload 5, 2) := by decide +kernel
theorem dL_isSo_336 : decode cL_isSo 336 = .ok (.iload 15, 2) := by decide +kernel
theorem dL_isSo_338 : decode cL_isSo 338 = .ok (.iaload, 1) := by decide +kernel
theorem dL_isSo_339 : decode cL_isSo 339 = .ok (.if_icmp .ne 49, 3) := by decide +kernel
theorem dL_isSo_342 : decode cL_isSo 342 = .ok (.aload_n 0, 1) := by decide +kernel
theorem dL_isSo_343 : decode cL_isSo 343 = .ok (.iload 15, 2) := by decide +kernel
theorem dL_isSo_345 : decode cL_isSo 345 = .ok (.bipush 7, 2) := by decide +kernel
theorem dL_isSo_347 : decode cL_isSo 347 = .ok (.invokevirtual 99, 3) := by decide +kernel
theorem dL_isSo_350 : decode cL_isSo 350 = .ok (.iload 16, 2) := by decide +kernel
theorem dL_isSo_352 : decode cL_isSo 352 = .ok (.if_icmp .ne 36, 3) := by decide +kernel
theorem dL_isSo_355 : decode cL_isSo 355 = .ok (.aload_n 0, 1) := by decide +kernel
theorem dL_isSo_356 : decode cL_isSo 356 = .ok (.iload 15, 2) := by decide +kernel
theorem dL_isSo_358 : decode cL_isSo 358 = .ok (.bipush 8, 2) := by decide +kernel
theorem dL_isSo_360 : decode cL_isSo 360 = .ok (.invokevirtual 99, 3) := by decide +kernel
theorem dL_isSo_363 : decode cL_isSo 363 = .ok (.aload 7, 2) := by decide +kernel
theorem dL_isSo_365 : decode cL_isSo 365 = .ok (.iload 15, 2) := by decide +kernel
theorem dL_isSo_367 : decode cL_isSo 367 = .ok (.iaload, 1) := by decide +kernel
theorem dL_isSo_368 : decode cL_isSo 368 = .ok (.if_icmp .ne 20, 3) := by decide +kernel
theorem dL_isSo_371 : decode cL_isSo 371 = .ok (.aload_n 0, 1) := by decide +kernel
theorem dL_isSo_372 : decode cL_isSo 372 = .ok (.iload 15, 2) := by decide +kernel
theorem dL_isSo_374 : decode cL_isSo 374 = .ok (.bipush 9, 2) := by decide +kernel
theorem dL_isSo_376 : decode cL_isSo 376 = .ok (.invokevirtual 99, 3) := by decide +kernel
theorem dL_isSo_379 : decode cL_isSo 379 = .ok (.iload 17, 2) := by decide +kernel
theorem dL_isSo_381 : decode cL_isSo 381 = .ok (.if_icmp .ne 7, 3) := by decide +kernel
theorem dL_isSo_384 : decode cL_isSo 384 = .ok (.iconst 1, 1) := by decide +kernel
theorem dL_isSo_385 : decode cL_isSo 385 = .ok (.goto 4, 3) := by decide +kernel
theorem dL_isSo_388 : decode cL_isSo 388 = .ok (.iconst 0, 1) := by decide +kernel
theorem dL_isSo_389 : decode cL_isSo 389 = .ok (.istore 13, 2) := by decide +kernel
theorem dL_isSo_391 : decode cL_isSo 391 = .ok (.iinc 14 1, 3) := by decide +kernel
theorem dL_isSo_394 : decode cL_isSo 394 = .ok (.goto (-332), 3) := by decide +kernel
theorem dL_isSo_397 : decode cL_isSo 397 = .ok (.iconst 0, 1) := by decide +kernel
theorem dL_isSo_398 : decode cL_isSo 398 = .ok (.istore 14, 2) := by decide +kernel
theorem dL_isSo_400 : decode cL_isSo 400 = .ok (.iload 14, 2) := by decide +kernel
theorem dL_isSo_402 : decode cL_isSo 402 = .ok (.aload_n 1, 1) := by decide +kernel
theorem dL_isSo_403 : decode cL_isSo 403 = .ok (.bipush 10, 2) := by decide +kernel
theorem dL_isSo_405 : decode cL_isSo 405 = .ok (.iaload, 1) := by decide +kernel
theorem dL_isSo_406 : decode cL_isSo 406 = .ok (.if_icmp .ge 191, 3) := by decide +kernel
theorem dL_isSo_409 : decode cL_isSo 409 = .ok (.iload 13, 2) := by decide +kernel
theorem dL_isSo_411 : decode cL_isSo 411 = .ok (.ifCond .eq 186, 3) := by decide +kernel
theorem dL_isSo_414 : decode cL_isSo 414 = .ok (.aload 4, 2) := by decide +kernel
theorem dL_isSo_416 : decode cL_isSo 416 = .ok (.iconst 3, 1) := by decide +kernel
theorem dL_isSo_417 : decode cL_isSo 417 = .ok (.iload 14, 2) := by decide +kernel
theorem dL_isSo_419 : decode cL_isSo 419 = .ok (.imul, 1) := by decide +kernel
theorem dL_isSo_420 : decode cL_isSo 420 = .ok (.iaload, 1) := by decide +kernel
theorem dL_isSo_421 : decode cL_isSo 421 = .ok (.iconst 2, 1) := by decide +kernel
theorem dL_isSo_422 : decode cL_isSo 422 = .ok (.if_icmp .ge 31, 3) := by decide +kernel
theorem dL_isSo_425 : decode cL_isSo 425 = .ok (.aload_n 1, 1) := by decide +kernel
theorem dL_isSo_426 : decode cL_isSo 426 = .ok (.aload 4, 2) := by decide +kernel
theorem dL_isSo_428 : decode cL_isSo 428 = .ok (.aload 4, 2) := by decide +kernel
theorem dL_isSo_430 : decode cL_isSo 430 = .ok (.iconst 3, 1) := by decide +kernel
theorem dL_isSo_431 : decode cL_isSo 431 = .ok (.iload 14, 2) := by decide +kernel
theorem dL_isSo_433 : decode cL_isSo 433 = .ok (.imul, 1) := by decide +kernel
theorem dL_isSo_434 : decode cL_isSo 434 = .ok (.iconst 1, 1) := by decide +kernel
theorem dL_isSo_435 : decode cL_isSo 435 = .ok (.iadd, 1) := by decide +kernel
theorem dL_isSo_436 : decode cL_isSo 436 = .ok (.iaload, 1) := by decide +kernel
theorem dL_isSo_437 : decode cL_isSo 437 = .ok (.invokestatic 31, 3) := by decide +kernel
theorem dL_isSo_440 : decode cL_isSo 440 = .ok (.iload 14, 2) := by decide +kernel
theorem dL_isSo_442 : decode cL_isSo 442 = .ok (.if_icmp .ne 7, 3) := by decide +kernel
theorem dL_isSo_445 : decode cL_isSo 445 = .ok (.iconst 1, 1) := by decide +kernel
theorem dL_isSo_446 : decode cL_isSo 446 = .ok (.goto 61, 3) := by decide +kernel
theorem dL_isSo_449 : decode cL_isSo 449 = .ok (.iconst 0, 1) := by decide +kernel
theorem dL_isSo_450 : decode cL_isSo 450 = .ok (.goto 57, 3) := by decide +kernel
theorem dL_isSo_453 : decode cL_isSo 453 = .ok (.aload_n 1, 1) := by decide +kernel
theorem dL_isSo_454 : decode cL_isSo 454 = .ok (.aload 4, 2) := by decide +kernel
theorem dL_isSo_456 : decode cL_isSo 456 = .ok (.aload 4, 2) := by decide +kernel
theorem dL_isSo_458 : decode cL_isSo 458 = .ok (.iconst 3, 1) := by decide +kernel
theorem dL_isSo_459 : decode cL_isSo 459 = .ok (.iload 14, 2) := by decide +kernel
theorem dL_isSo_461 : decode cL_isSo 461 = .ok (.imul, 1) := by decide +kernel
theorem dL_isSo_462 : decode cL_isSo 462 = .ok (.iconst 1, 1) := by decide +kernel
theorem dL_isSo_463 : decode cL_isSo 463 = .ok (.iadd, 1) := by decide +kernel
theorem dL_isSo_464 : decode cL_isSo 464 = .ok (.iaload, 1) := by decide +kernel
theorem dL_isSo_465 : decode cL_isSo 465 = .ok (.invokestatic 31, 3) := by decide +kernel
theorem dL_isSo_468 : decode cL_isSo 468 = .ok (.ifCond .ge 38, 3) := by decide +kernel
theorem dL_isSo_471 : decode cL_isSo 471 = .ok (.aload_n 1, 1) := by decide +kernel
theorem dL_isSo_472 : decode cL_isSo 472 = .ok (.aload_n 2, 1) := by decide +kernel
theorem dL_isSo_473 : decode cL_isSo 473 = .ok (.aload_n 3, 1) := by decide +kernel
theorem dL_isSo_474 : decode cL_isSo 474 = .ok (.aload 4, 2) := by decide +kernel
theorem dL_isSo_476 : decode cL_isSo 476 = .ok (.aload 4, 2) := by decide +kernel
theorem dL_isSo_478 : decode cL_isSo 478 = .ok (.iconst 3, 1) := by decide +kernel
theorem dL_isSo_479 : decode cL_isSo 479 = .ok (.iload 14, 2) := by decide +kernel
theorem dL_isSo_481 : decode cL_isSo 481 = .ok (.imul, 1) := by decide +kernel
theorem dL_isSo_482 : decode cL_isSo 482 = .ok (.iconst 1, 1) := by decide +kernel
theorem dL_isSo_483 : decode cL_isSo 483 = .ok (.iadd, 1) := by decide +kernel
theorem dL_isSo_484 : decode cL_isSo 484 = .ok (.iaload, 1) := by decide +kernel
theorem dL_isSo_485 : decode cL_isSo 485 = .ok (.iload 14, 2) := by decide +kernel
theorem dL_isSo_487 : decode cL_isSo 487 = .ok (.invokestatic 43, 3) := by decide +kernel
theorem dL_isSo_490 : decode cL_isSo 490 = .ok (.aload 4, 2) := by decide +kernel
theorem dL_isSo_492 : decode cL_isSo 492 = .ok (.iconst 3, 1) := by decide +kernel
theorem dL_isSo_493 : decode cL_isSo 493 = .ok (.iload 14, 2) := by decide +kernel
theorem dL_isSo_495 : decode cL_isSo 495 = .ok (.imul, 1) := by decide +kernel
theorem dL_isSo_496 : decode cL_isSo 496 = .ok (.iconst 2, 1) := by decide +kernel
theorem dL_isSo_497 : decode cL_isSo 497 = .ok (.iadd, 1) := by decide +kernel
theorem dL_isSo_498 : decode cL_isSo 498 = .ok (.iaload, 1) := by decide +kernel
theorem dL_isSo_499 : decode cL_isSo 499 = .ok (.if_icmp .ne 7, 3) := by decide +kernel
theorem dL_isSo_502 : decode cL_isSo 502 = .ok (.iconst 1, 1) := by decide +kernel
theorem dL_isSo_503 : decode cL_isSo 503 = .ok (.goto 4, 3) := by decide +kernel
theorem dL_isSo_506 : decode cL_isSo 506 = .ok (.iconst 0, 1) := by decide +kernel
theorem dL_isSo_507 : decode cL_isSo 507 = .ok (.istore 15, 2) := by decide +kernel
theorem dL_isSo_509 : decode cL_isSo 509 = .ok (.aload_n 0, 1) := by decide +kernel
theorem dL_isSo_510 : decode cL_isSo 510 = .ok (.iload 14, 2) := by decide +kernel
theorem dL_isSo_512 : decode cL_isSo 512 = .ok (.iconst 0, 1) := by decide +kernel
theorem dL_isSo_513 : decode cL_isSo 513 = .ok (.invokevirtual 102, 3) := by decide +kernel
theorem dL_isSo_516 : decode cL_isSo 516 = .ok (.aload 4, 2) := by decide +kernel
theorem dL_isSo_518 : decode cL_isSo 518 = .ok (.iconst 3, 1) := by decide +kernel
theorem dL_isSo_519 : decode cL_isSo 519 = .ok (.iload 14, 2) := by decide +kernel
theorem dL_isSo_521 : decode cL_isSo 521 = .ok (.imul, 1) := by decide +kernel
theorem dL_isSo_522 : decode cL_isSo 522 = .ok (.iaload, 1) := by decide +kernel
theorem dL_isSo_523 : decode cL_isSo 523 = .ok (.if_icmp .ne 65, 3) := by decide +kernel
theorem dL_isSo_526 : decode cL_isSo 526 = .ok (.aload_n 0, 1) := by decide +kernel
theorem dL_isSo_527 : decode cL_isSo 527 = .ok (.iload 14, 2) := by decide +kernel
theorem dL_isSo_529 : decode cL_isSo 529 = .ok (.iconst 1, 1) := by decide +kernel
theorem dL_isSo_530 : decode cL_isSo 530 = .ok (.invokevirtual 102, 3) := by decide +kernel
theorem dL_isSo_533 : decode cL_isSo 533 = .ok (.aload 4, 2) := by decide +kernel
theorem dL_isSo_535 : decode cL_isSo 535 = .ok (.iconst 3, 1) := by decide +kernel
theorem dL_isSo_536 : decode cL_isSo 536 = .ok (.iload 14, 2) := by decide +kernel
theorem dL_isSo_538 : decode cL_isSo 538 = .ok (.imul, 1) := by decide +kernel
theorem dL_isSo_539 : decode cL_isSo 539 = .ok (.iconst 1, 1) := by decide +kernel
theorem dL_isSo_540 : decode cL_isSo 540 = .ok (.iadd, 1) := by decide +kernel
theorem dL_isSo_541 : decode cL_isSo 541 = .ok (.iaload, 1) := by decide +kernel
theorem dL_isSo_542 : decode cL_isSo 542 = .ok (.if_icmp .ne 46, 3) := by decide +kernel
theorem dL_isSo_545 : decode cL_isSo 545 = .ok (.aload_n 0, 1) := by decide +kernel
theorem dL_isSo_546 : decode cL_isSo 546 = .ok (.iload 14, 2) := by decide +kernel
theorem dL_isSo_548 : decode cL_isSo 548 = .ok (.iconst 2, 1) := by decide +kernel
theorem dL_isSo_549 : decode cL_isSo 549 = .ok (.invokevirtual 102, 3) := by decide +kernel
theorem dL_isSo_552 : decode cL_isSo 552 = .ok (.aload 4, 2) := by decide +kernel
theorem dL_isSo_554 : decode cL_isSo 554 = .ok (.iconst 3, 1) := by decide +kernel
theorem dL_isSo_555 : decode cL_isSo 555 = .ok (.iload 14, 2) := by decide +kernel
theorem dL_isSo_557 : decode cL_isSo 557 = .ok (.imul, 1) := by decide +kernel
theorem dL_isSo_558 : decode cL_isSo 558 = .ok (.iconst 2, 1) := by decide +kernel
theorem dL_isSo_559 : decode cL_isSo 559 = .ok (.iadd, 1) := by decide +kernel
theorem dL_isSo_560 : decode cL_isSo 560 = .ok (.iaload, 1) := by decide +kernel
theorem dL_isSo_561 : decode cL_isSo 561 = .ok (.if_icmp .ne 27, 3) := by decide +kernel
theorem dL_isSo_564 : decode cL_isSo 564 = .ok (.aload_n 0, 1) := by decide +kernel
theorem dL_isSo_565 : decode cL_isSo 565 = .ok (.iload 14, 2) := by decide +kernel
theorem dL_isSo_567 : decode cL_isSo 567 = .ok (.iconst 3, 1) := by decide +kernel
theorem dL_isSo_568 : decode cL_isSo 568 = .ok (.invokevirtual 102, 3) := by decide +kernel
theorem dL_isSo_571 : decode cL_isSo 571 = .ok (.iload 15, 2) := by decide +kernel
theorem dL_isSo_573 : decode cL_isSo 573 = .ok (.ifCond .eq 7, 3) := by decide +kernel
theorem dL_isSo_576 : decode cL_isSo 576 = .ok (.iconst 1, 1) := by decide +kernel
theorem dL_isSo_577 : decode cL_isSo 577 = .ok (.goto 4, 3) := by decide +kernel
theorem dL_isSo_580 : decode cL_isSo 580 = .ok (.iconst 0, 1) := by decide +kernel
theorem dL_isSo_581 : decode cL_isSo 581 = .ok (.if_icmp .ne 7, 3) := by decide +kernel
theorem dL_isSo_584 : decode cL_isSo 584 = .ok (.iconst 1, 1) := by decide +kernel
theorem dL_isSo_585 : decode cL_isSo 585 = .ok (.goto 4, 3) := by decide +kernel
theorem dL_isSo_588 : decode cL_isSo 588 = .ok (.iconst 0, 1) := by decide +kernel
theorem dL_isSo_589 : decode cL_isSo 589 = .ok (.istore 13, 2) := by decide +kernel
theorem dL_isSo_591 : decode cL_isSo 591 = .ok (.iinc 14 1, 3) := by decide +kernel
theorem dL_isSo_594 : decode cL_isSo 594 = .ok (.goto (-194), 3) := by decide +kernel
theorem dL_isSo_597 : decode cL_isSo 597 = .ok (.iconst 0, 1) := by decide +kernel
theorem dL_isSo_598 : decode cL_isSo 598 = .ok (.istore 14, 2) := by decide +kernel
theorem dL_isSo_600 : decode cL_isSo 600 = .ok (.iload 14, 2) := by decide +kernel
theorem dL_isSo_602 : decode cL_isSo 602 = .ok (.bipush 8, 2) := by decide +kernel
theorem dL_isSo_604 : decode cL_isSo 604 = .ok (.if_icmp .ge 37, 3) := by decide +kernel
theorem dL_isSo_607 : decode cL_isSo 607 = .ok (.iload 13, 2) := by decide +kernel
theorem dL_isSo_609 : decode cL_isSo 609 = .ok (.ifCond .eq 23, 3) := by decide +kernel
theorem dL_isSo_612 : decode cL_isSo 612 = .ok (.aload_n 0, 1) := by decide +kernel
theorem dL_isSo_613 : decode cL_isSo 613 = .ok (.bipush 10, 2) := by decide +kernel
theorem dL_isSo_615 : decode cL_isSo 615 = .ok (.iload 14, 2) := by decide +kernel
theorem dL_isSo_617 : decode cL_isSo 617 = .ok (.iadd, 1) := by decide +kernel
theorem dL_isSo_618 : decode cL_isSo 618 = .ok (.invokevirtual 105, 3) := by decide +kernel
theorem dL_isSo_621 : decode cL_isSo 621 = .ok (.aload_n 1, 1) := by decide +kernel
theorem dL_isSo_622 : decode cL_isSo 622 = .ok (.iload 14, 2) := by decide +kernel
theorem dL_isSo_624 : decode cL_isSo 624 = .ok (.iaload, 1) := by decide +kernel
theorem dL_isSo_625 : decode cL_isSo 625 = .ok (.if_icmp .ne 7, 3) := by decide +kernel
theorem dL_isSo_628 : decode cL_isSo 628 = .ok (.iconst 1, 1) := by decide +kernel
theorem dL_isSo_629 : decode cL_isSo 629 = .ok (.goto 4, 3) := by decide +kernel
theorem dL_isSo_632 : decode cL_isSo 632 = .ok (.iconst 0, 1) := by decide +kernel
theorem dL_isSo_633 : decode cL_isSo 633 = .ok (.istore 13, 2) := by decide +kernel
theorem dL_isSo_635 : decode cL_isSo 635 = .ok (.iinc 14 1, 3) := by decide +kernel
theorem dL_isSo_638 : decode cL_isSo 638 = .ok (.goto (-38), 3) := by decide +kernel
theorem dL_isSo_641 : decode cL_isSo 641 = .ok (.iload 13, 2) := by decide +kernel
theorem dL_isSo_643 : decode cL_isSo 643 = .ok (.ifCond .eq 142, 3) := by decide +kernel
theorem dL_isSo_646 : decode cL_isSo 646 = .ok (.iload 10, 2) := by decide +kernel
theorem dL_isSo_648 : decode cL_isSo 648 = .ok (.iload 9, 2) := by decide +kernel
theorem dL_isSo_650 : decode cL_isSo 650 = .ok (.iload 11, 2) := by decide +kernel
theorem dL_isSo_652 : decode cL_isSo 652 = .ok (.iadd, 1) := by decide +kernel
theorem dL_isSo_653 : decode cL_isSo 653 = .ok (.if_icmp .ne 132, 3) := by decide +kernel
theorem dL_isSo_656 : decode cL_isSo 656 = .ok (.aload_n 0, 1) := by decide +kernel
theorem dL_isSo_657 : decode cL_isSo 657 = .ok (.aload_n 1, 1) := by decide +kernel
theorem dL_isSo_658 : decode cL_isSo 658 = .ok (.bipush 9, 2) := by decide +kernel
theorem dL_isSo_660 : decode cL_isSo 660 = .ok (.iaload, 1) := by decide +kernel
theorem dL_isSo_661 : decode cL_isSo 661 = .ok (.invokevirtual 96, 3) := by decide +kernel
theorem dL_isSo_664 : decode cL_isSo 664 = .ok (.bipush (-4), 2) := by decide +kernel
theorem dL_isSo_666 : decode cL_isSo 666 = .ok (.if_icmp .ne 119, 3) := by decide +kernel
theorem dL_isSo_669 : decode cL_isSo 669 = .ok (.aload_n 0, 1) := by decide +kernel
theorem dL_isSo_670 : decode cL_isSo 670 = .ok (.aload_n 1, 1) := by decide +kernel
theorem dL_isSo_671 : decode cL_isSo 671 = .ok (.bipush 9, 2) := by decide +kernel
theorem dL_isSo_673 : decode cL_isSo 673 = .ok (.iaload, 1) := by decide +kernel
theorem dL_isSo_674 : decode cL_isSo 674 = .ok (.iconst 0, 1) := by decide +kernel
theorem dL_isSo_675 : decode cL_isSo 675 = .ok (.invokevirtual 99, 3) := by decide +kernel
theorem dL_isSo_678 : decode cL_isSo 678 = .ok (.iconst (-1), 1) := by decide +kernel
theorem dL_isSo_679 : decode cL_isSo 679 = .ok (.if_icmp .ne 106, 3) := by decide +kernel
theorem dL_isSo_682 : decode cL_isSo 682 = .ok (.aload_n 0, 1) := by decide +kernel
theorem dL_isSo_683 : decode cL_isSo 683 = .ok (.aload_n 1, 1) := by decide +kernel
theorem dL_isSo_684 : decode cL_isSo 684 = .ok (.bipush 10, 2) := by decide +kernel
theorem dL_isSo_686 : decode cL_isSo 686 = .ok (.iaload, 1) := by decide +kernel
theorem dL_isSo_687 : decode cL_isSo 687 = .ok (.iconst 0, 1) := by decide +kernel
theorem dL_isSo_688 : decode cL_isSo 688 = .ok (.invokevirtual 102, 3) := by decide +kernel
theorem dL_isSo_691 : decode cL_isSo 691 = .ok (.iconst (-1), 1) := by decide +kernel
theorem dL_isSo_692 : decode cL_isSo 692 = .ok (.if_icmp .ne 93, 3) := by decide +kernel
theorem dL_isSo_695 : decode cL_isSo 695 = .ok (.aload_n 0, 1) := by decide +kernel
theorem dL_isSo_696 : decode cL_isSo 696 = .ok (.iconst 0, 1) := by decide +kernel
theorem dL_isSo_697 : decode cL_isSo 697 = .ok (.invokevirtual 105, 3) := by decide +kernel
theorem dL_isSo_700 : decode cL_isSo 700 = .ok (.aload_n 1, 1) := by decide +kernel
theorem dL_isSo_701 : decode cL_isSo 701 = .ok (.bipush 9, 2) := by decide +kernel
theorem dL_isSo_703 : decode cL_isSo 703 = .ok (.iaload, 1) := by decide +kernel
theorem dL_isSo_704 : decode cL_isSo 704 = .ok (.if_icmp .ne 81, 3) := by decide +kernel
theorem dL_isSo_707 : decode cL_isSo 707 = .ok (.aload_n 0, 1) := by decide +kernel
theorem dL_isSo_708 : decode cL_isSo 708 = .ok (.iconst 1, 1) := by decide +kernel
theorem dL_isSo_709 : decode cL_isSo 709 = .ok (.invokevirtual 105, 3) := by decide +kernel
theorem dL_isSo_712 : decode cL_isSo 712 = .ok (.aload_n 1, 1) := by decide +kernel
theorem dL_isSo_713 : decode cL_isSo 713 = .ok (.bipush 10, 2) := by decide +kernel
theorem dL_isSo_715 : decode cL_isSo 715 = .ok (.iaload, 1) := by decide +kernel
theorem dL_isSo_716 : decode cL_isSo 716 = .ok (.if_icmp .ne 69, 3) := by decide +kernel
theorem dL_isSo_719 : decode cL_isSo 719 = .ok (.aload_n 0, 1) := by decide +kernel
theorem dL_isSo_720 : decode cL_isSo 720 = .ok (.iconst 2, 1) := by decide +kernel
theorem dL_isSo_721 : decode cL_isSo 721 = .ok (.invokevirtual 105, 3) := by decide +kernel
theorem dL_isSo_724 : decode cL_isSo 724 = .ok (.iload 9, 2) := by decide +kernel
theorem dL_isSo_726 : decode cL_isSo 726 = .ok (.if_icmp .ne 59, 3) := by decide +kernel
theorem dL_isSo_729 : decode cL_isSo 729 = .ok (.aload_n 0, 1) := by decide +kernel
theorem dL_isSo_730 : decode cL_isSo 730 = .ok (.iconst 3, 1) := by decide +kernel
theorem dL_isSo_731 : decode cL_isSo 731 = .ok (.invokevirtual 105, 3) := by decide +kernel
theorem dL_isSo_734 : decode cL_isSo 734 = .ok (.iload 10, 2) := by decide +kernel
theorem dL_isSo_736 : decode cL_isSo 736 = .ok (.if_icmp .ne 49, 3) := by decide +kernel
theorem dL_isSo_739 : decode cL_isSo 739 = .ok (.aload_n 0, 1) := by decide +kernel
theorem dL_isSo_740 : decode cL_isSo 740 = .ok (.iconst 4, 1) := by decide +kernel
theorem dL_isSo_741 : decode cL_isSo 741 = .ok (.invokevirtual 105, 3) := by decide +kernel
theorem dL_isSo_744 : decode cL_isSo 744 = .ok (.iload 11, 2) := by decide +kernel
theorem dL_isSo_746 : decode cL_isSo 746 = .ok (.if_icmp .ne 39, 3) := by decide +kernel
theorem dL_isSo_749 : decode cL_isSo 749 = .ok (.aload_n 0, 1) := by decide +kernel
theorem dL_isSo_750 : decode cL_isSo 750 = .ok (.iconst 5, 1) := by decide +kernel
theorem dL_isSo_751 : decode cL_isSo 751 = .ok (.invokevirtual 105, 3) := by decide +kernel
theorem dL_isSo_754 : decode cL_isSo 754 = .ok (.iload 12, 2) := by decide +kernel
theorem dL_isSo_756 : decode cL_isSo 756 = .ok (.if_icmp .ne 29, 3) := by decide +kernel
theorem dL_isSo_759 : decode cL_isSo 759 = .ok (.aload_n 0, 1) := by decide +kernel
theorem dL_isSo_760 : decode cL_isSo 760 = .ok (.bipush 6, 2) := by decide +kernel
theorem dL_isSo_762 : decode cL_isSo 762 = .ok (.invokevirtual 105, 3) := by decide +kernel
theorem dL_isSo_765 : decode cL_isSo 765 = .ok (.aload_n 1, 1) := by decide +kernel
theorem dL_isSo_766 : decode cL_isSo 766 = .ok (.bipush 8, 2) := by decide +kernel
theorem dL_isSo_768 : decode cL_isSo 768 = .ok (.iaload, 1) := by decide +kernel
theorem dL_isSo_769 : decode cL_isSo 769 = .ok (.if_icmp .ne 16, 3) := by decide +kernel
theorem dL_isSo_772 : decode cL_isSo 772 = .ok (.aload_n 0, 1) := by decide +kernel
theorem dL_isSo_773 : decode cL_isSo 773 = .ok (.bipush 8, 2) := by decide +kernel
theorem dL_isSo_775 : decode cL_isSo 775 = .ok (.invokevirtual 105, 3) := by decide +kernel
theorem dL_isSo_778 : decode cL_isSo 778 = .ok (.ifCond .ne 7, 3) := by decide +kernel
theorem dL_isSo_781 : decode cL_isSo 781 = .ok (.iconst 1, 1) := by decide +kernel
theorem dL_isSo_782 : decode cL_isSo 782 = .ok (.goto 4, 3) := by decide +kernel
theorem dL_isSo_785 : decode cL_isSo 785 = .ok (.iconst 0, 1) := by decide +kernel
theorem dL_isSo_786 : decode cL_isSo 786 = .ok (.ireturn, 1) := by decide +kernel
def t_L_isSo_786 (bc bs : Nat) : am_T := tb_zretA bc bs
def t_L_isSo_785 (bc bs : Nat) : am_T := tb_const 0 <|
  t_L_isSo_786 bc bs
def t_L_isSo_641 (bc bs : Nat) : am_T := tb_iload 13 <|
  tb_if (fun x => x = 0) (t_L_isSo_785 bc bs) <|
  tb_iload 10 <|
  tb_iload 9 <|
  tb_iload 11 <|
  tb_bin (fun x y => x + y) <|
  tb_ic (fun x y => x ≠ y) (t_L_isSo_785 bc bs) <|
  tb_aload 0 <|
  tb_aload 1 <|
  tb_const 9 <|
  tb_iald <|
  tb_callV 4 sp_X4_inOrder 2 <|
  tb_const (-4) <|
  tb_ic (fun x y => x ≠ y) (t_L_isSo_785 bc bs) <|
  tb_aload 0 <|
  tb_aload 1 <|
  tb_const 9 <|
  tb_iald <|
  tb_const 0 <|
  tb_callV 4 sp_X4_lineOf 3 <|
  tb_const (-1) <|
  tb_ic (fun x y => x ≠ y) (t_L_isSo_785 bc bs) <|
  tb_aload 0 <|
  tb_aload 1 <|
  tb_const 10 <|
  tb_iald <|
  tb_const 0 <|
  tb_callV 4 sp_X4_correction 3 <|
  tb_const (-1) <|
  tb_ic (fun x y => x ≠ y) (t_L_isSo_785 bc bs) <|
  tb_aload 0 <|
  tb_const 0 <|
  tb_callV 4 sp_X4_count 2 <|
  tb_aload 1 <|
  tb_const 9 <|
  tb_iald <|
  tb_ic (fun x y => x ≠ y) (t_L_isSo_785 bc bs) <|
  tb_aload 0 <|
  tb_const 1 <|
  tb_callV 4 sp_X4_count 2 <|
  tb_aload 1 <|
  tb_const 10 <|
  tb_iald <|
  tb_ic (fun x y => x ≠ y) (t_L_isSo_785 bc bs) <|
  tb_aload 0 <|
  tb_const 2 <|
  tb_callV 4 sp_X4_count 2 <|
  tb_iload 9 <|
  tb_ic (fun x y => x ≠ y) (t_L_isSo_785 bc bs) <|
  tb_aload 0 <|
  tb_const 3 <|
  tb_callV 4 sp_X4_count 2 <|
  tb_iload 10 <|
  tb_ic (fun x y => x ≠ y) (t_L_isSo_785 bc bs) <|
  tb_aload 0 <|
  tb_const 4 <|
  tb_callV 4 sp_X4_count 2 <|
  tb_iload 11 <|
  tb_ic (fun x y => x ≠ y) (t_L_isSo_785 bc bs) <|
  tb_aload 0 <|
  tb_const 5 <|
  tb_callV 4 sp_X4_count 2 <|
  tb_iload 12 <|
  tb_ic (fun x y => x ≠ y) (t_L_isSo_785 bc bs) <|
  tb_aload 0 <|
  tb_const 6 <|
  tb_callV 4 sp_X4_count 2 <|
  tb_aload 1 <|
  tb_const 8 <|
  tb_iald <|
  tb_ic (fun x y => x ≠ y) (t_L_isSo_785 bc bs) <|
  tb_aload 0 <|
  tb_const 8 <|
  tb_callV 4 sp_X4_count 2 <|
  tb_if (fun x => x ≠ 0) (t_L_isSo_785 bc bs) <|
  tb_const 1 <|
  t_L_isSo_786 bc bs
def t_L_isSo_633 (bc bs : Nat) : am_T := tb_istore 13 <|
  tb_iinc 14 1 <|
  tb_head 600
def t_L_isSo_632 (bc bs : Nat) : am_T := tb_const 0 <|
  t_L_isSo_633 bc bs
def t_L_isSo_600 (bc bs : Nat) : am_T := tb_iload 14 <|
  tb_const 8 <|
  tb_ic (fun x y => y ≤ x) (t_L_isSo_641 bc bs) <|
  tb_iload 13 <|
  tb_if (fun x => x = 0) (t_L_isSo_632 bc bs) <|
  tb_aload 0 <|
  tb_const 10 <|
  tb_iload 14 <|
  tb_bin (fun x y => x + y) <|
  tb_callV 4 sp_X4_count 2 <|
  tb_aload 1 <|
  tb_iload 14 <|
  tb_iald <|
  tb_ic (fun x y => x ≠ y) (t_L_isSo_632 bc bs) <|
  tb_const 1 <|
  t_L_isSo_633 bc bs
def t_L_isSo_597 (bc bs : Nat) : am_T := tb_const 0 <|
  tb_istore 14 <|
  tb_head 600
def t_L_isSo_589 (bc bs : Nat) : am_T := tb_istore 13 <|
  tb_iinc 14 1 <|
  tb_head 400
def t_L_isSo_588 (bc bs : Nat) : am_T := tb_const 0 <|
  t_L_isSo_589 bc bs
def t_L_isSo_581 (bc bs : Nat) : am_T := tb_ic (fun x y => x ≠ y) (t_L_isSo_588 bc bs) <|
  tb_const 1 <|
  t_L_isSo_589 bc bs
def t_L_isSo_580 (bc bs : Nat) : am_T := tb_const 0 <|
  t_L_isSo_581 bc bs
def t_L_isSo_507 (bc bs : Nat) : am_T := tb_istore 15 <|
  tb_aload 0 <|
  tb_iload 14 <|
  tb_const 0 <|
  tb_callV 4 sp_X4_correction 3 <|
  tb_aload 4 <|
  tb_const 3 <|
  tb_iload 14 <|
  tb_bin (fun x y => x * y) <|
  tb_iald <|
  tb_ic (fun x y => x ≠ y) (t_L_isSo_588 bc bs) <|
  tb_aload 0 <|
  tb_iload 14 <|
  tb_const 1 <|
  tb_callV 4 sp_X4_correction 3 <|
  tb_aload 4 <|
  tb_const 3 <|
  tb_iload 14 <|
  tb_bin (fun x y => x * y) <|
  tb_const 1 <|
  tb_bin (fun x y => x + y) <|
  tb_iald <|
  tb_ic (fun x y => x ≠ y) (t_L_isSo_588 bc bs) <|
  tb_aload 0 <|
  tb_iload 14 <|
  tb_const 2 <|
  tb_callV 4 sp_X4_correction 3 <|
  tb_aload 4 <|
  tb_const 3 <|
  tb_iload 14 <|
  tb_bin (fun x y => x * y) <|
  tb_const 2 <|
  tb_bin (fun x y => x + y) <|
  tb_iald <|
  tb_ic (fun x y => x ≠ y) (t_L_isSo_588 bc bs) <|
  tb_aload 0 <|
  tb_iload 14 <|
  tb_const 3 <|
  tb_callV 4 sp_X4_correction 3 <|
  tb_iload 15 <|
  tb_if (fun x => x = 0) (t_L_isSo_580 bc bs) <|
  tb_const 1 <|
  t_L_isSo_581 bc bs
def t_L_isSo_506 (bc bs : Nat) : am_T := tb_const 0 <|
  t_L_isSo_507 bc bs
def t_L_isSo_453 (bc bs : Nat) : am_T := tb_aload 1 <|
  tb_aload 4 <|
  tb_aload 4 <|
  tb_const 3 <|
  tb_iload 14 <|
  tb_bin (fun x y => x * y) <|
  tb_const 1 <|
  tb_bin (fun x y => x + y) <|
  tb_iald <|
  tb_callS sp_L_counts 3 <|
  tb_if (fun x => 0 ≤ x) (t_L_isSo_506 bc bs) <|
  tb_aload 1 <|
  tb_aload 2 <|
  tb_aload 3 <|
  tb_aload 4 <|
  tb_aload 4 <|
  tb_const 3 <|
  tb_iload 14 <|
  tb_bin (fun x y => x * y) <|
  tb_const 1 <|
  tb_bin (fun x y => x + y) <|
  tb_iald <|
  tb_iload 14 <|
  tb_callS sp_L_answer 6 <|
  tb_aload 4 <|
  tb_const 3 <|
  tb_iload 14 <|
  tb_bin (fun x y => x * y) <|
  tb_const 2 <|
  tb_bin (fun x y => x + y) <|
  tb_iald <|
  tb_ic (fun x y => x ≠ y) (t_L_isSo_506 bc bs) <|
  tb_const 1 <|
  t_L_isSo_507 bc bs
def t_L_isSo_449 (bc bs : Nat) : am_T := tb_const 0 <|
  t_L_isSo_507 bc bs
def t_L_isSo_400 (bc bs : Nat) : am_T := tb_iload 14 <|
  tb_aload 1 <|
  tb_const 10 <|
  tb_iald <|
  tb_ic (fun x y => y ≤ x) (t_L_isSo_597 bc bs) <|
  tb_iload 13 <|
  tb_if (fun x => x = 0) (t_L_isSo_597 bc bs) <|
  tb_aload 4 <|
  tb_const 3 <|
  tb_iload 14 <|
  tb_bin (fun x y => x * y) <|
  tb_iald <|
  tb_const 2 <|
  tb_ic (fun x y => y ≤ x) (t_L_isSo_453 bc bs) <|
  tb_aload 1 <|
  tb_aload 4 <|
  tb_aload 4 <|
  tb_const 3 <|
  tb_iload 14 <|
  tb_bin (fun x y => x * y) <|
  tb_const 1 <|
  tb_bin (fun x y => x + y) <|
  tb_iald <|
  tb_callS sp_L_counts 3 <|
  tb_iload 14 <|
  tb_ic (fun x y => x ≠ y) (t_L_isSo_449 bc bs) <|
  tb_const 1 <|
  t_L_isSo_507 bc bs
def t_L_isSo_397 (bc bs : Nat) : am_T := tb_const 0 <|
  tb_istore 14 <|
  tb_head 400
def t_L_isSo_389 (bc bs : Nat) : am_T := tb_istore 13 <|
  tb_iinc 14 1 <|
  tb_head 62
def t_L_isSo_388 (bc bs : Nat) : am_T := tb_const 0 <|
  t_L_isSo_389 bc bs
def t_L_isSo_215 (bc bs : Nat) : am_T := tb_bin (fun x y => x + y) <|
  tb_istore 12 <|
  tb_aload 0 <|
  tb_iload 14 <|
  tb_callV 4 sp_X4_inOrder 2 <|
  tb_iload 15 <|
  tb_ic (fun x y => x ≠ y) (t_L_isSo_388 bc bs) <|
  tb_aload 0 <|
  tb_iload 15 <|
  tb_const 0 <|
  tb_callV 4 sp_X4_lineOf 3 <|
  tb_aload 3 <|
  tb_const 4 <|
  tb_iload 15 <|
  tb_bin (fun x y => x * y) <|
  tb_iald <|
  tb_ic (fun x y => x ≠ y) (t_L_isSo_388 bc bs) <|
  tb_aload 0 <|
  tb_iload 15 <|
  tb_const 1 <|
  tb_callV 4 sp_X4_lineOf 3 <|
  tb_aload 3 <|
  tb_const 4 <|
  tb_iload 15 <|
  tb_bin (fun x y => x * y) <|
  tb_const 1 <|
  tb_bin (fun x y => x + y) <|
  tb_iald <|
  tb_ic (fun x y => x ≠ y) (t_L_isSo_388 bc bs) <|
  tb_aload 0 <|
  tb_iload 15 <|
  tb_const 2 <|
  tb_callV 4 sp_X4_lineOf 3 <|
  tb_aload 3 <|
  tb_const 4 <|
  tb_iload 15 <|
  tb_bin (fun x y => x * y) <|
  tb_const 2 <|
  tb_bin (fun x y => x + y) <|
  tb_iald <|
  tb_ic (fun x y => x ≠ y) (t_L_isSo_388 bc bs) <|
  tb_aload 0 <|
  tb_iload 15 <|
  tb_const 3 <|
  tb_callV 4 sp_X4_lineOf 3 <|
  tb_aload 3 <|
  tb_const 4 <|
  tb_iload 15 <|
  tb_bin (fun x y => x * y) <|
  tb_const 3 <|
  tb_bin (fun x y => x + y) <|
  tb_iald <|
  tb_ic (fun x y => x ≠ y) (t_L_isSo_388 bc bs) <|
  tb_aload 0 <|
  tb_iload 15 <|
  tb_const 4 <|
  tb_callV 4 sp_X4_lineOf 3 <|
  tb_iload 14 <|
  tb_ic (fun x y => x ≠ y) (t_L_isSo_388 bc bs) <|
  tb_aload 0 <|
  tb_iload 15 <|
  tb_const 5 <|
  tb_callV 4 sp_X4_lineOf 3 <|
  tb_aload 6 <|
  tb_iload 15 <|
  tb_iald <|
  tb_ic (fun x y => x ≠ y) (t_L_isSo_388 bc bs) <|
  tb_aload 0 <|
  tb_iload 15 <|
  tb_const 6 <|
  tb_callV 4 sp_X4_lineOf 3 <|
  tb_aload 5 <|
  tb_iload 15 <|
  tb_iald <|
  tb_ic (fun x y => x ≠ y) (t_L_isSo_388 bc bs) <|
  tb_aload 0 <|
  tb_iload 15 <|
  tb_const 7 <|
  tb_callV 4 sp_X4_lineOf 3 <|
  tb_iload 16 <|
  tb_ic (fun x y => x ≠ y) (t_L_isSo_388 bc bs) <|
  tb_aload 0 <|
  tb_iload 15 <|
  tb_const 8 <|
  tb_callV 4 sp_X4_lineOf 3 <|
  tb_aload 7 <|
  tb_iload 15 <|
  tb_iald <|
  tb_ic (fun x y => x ≠ y) (t_L_isSo_388 bc bs) <|
  tb_aload 0 <|
  tb_iload 15 <|
  tb_const 9 <|
  tb_callV 4 sp_X4_lineOf 3 <|
  tb_iload 17 <|
  tb_ic (fun x y => x ≠ y) (t_L_isSo_388 bc bs) <|
  tb_const 1 <|
  t_L_isSo_389 bc bs
def t_L_isSo_214 (bc bs : Nat) : am_T := tb_const 1 <|
  t_L_isSo_215 bc bs
def t_L_isSo_184 (bc bs : Nat) : am_T := tb_bin (fun x y => x + y) <|
  tb_istore 10 <|
  tb_iload 11 <|
  tb_aload 7 <|
  tb_iload 15 <|
  tb_iald <|
  tb_bin (fun x y => x + y) <|
  tb_istore 11 <|
  tb_iload 12 <|
  tb_aload 1 <|
  tb_aload 4 <|
  tb_iload 15 <|
  tb_callS sp_L_counts 3 <|
  tb_if (fun x => 0 ≤ x) (t_L_isSo_214 bc bs) <|
  tb_const 0 <|
  t_L_isSo_215 bc bs
def t_L_isSo_183 (bc bs : Nat) : am_T := tb_const 0 <|
  t_L_isSo_184 bc bs
def t_L_isSo_169 (bc bs : Nat) : am_T := tb_iload 10 <|
  tb_aload 5 <|
  tb_iload 15 <|
  tb_iald <|
  tb_if (fun x => 0 ≤ x) (t_L_isSo_183 bc bs) <|
  tb_const 1 <|
  t_L_isSo_184 bc bs
def t_L_isSo_160 (bc bs : Nat) : am_T := tb_bin (fun x y => x ||| y) <|
  tb_istore 17 <|
  tb_iinc 18 1 <|
  tb_head 130
def t_L_isSo_159 (bc bs : Nat) : am_T := tb_const 0 <|
  t_L_isSo_160 bc bs
def t_L_isSo_130 (bc bs : Nat) : am_T := tb_iload 18 <|
  tb_const 12 <|
  tb_ic (fun x y => y ≤ x) (t_L_isSo_169 bc bs) <|
  tb_iload 17 <|
  tb_aload 1 <|
  tb_aload 2 <|
  tb_aload 3 <|
  tb_iload 15 <|
  tb_iload 18 <|
  tb_callS sp_L_speaks 5 <|
  tb_if (fun x => x = 0) (t_L_isSo_159 bc bs) <|
  tb_const 1 <|
  tb_iload 18 <|
  tb_bin (fun x y => x <<< (y &&& 31)) <|
  t_L_isSo_160 bc bs
def t_L_isSo_127 (bc bs : Nat) : am_T := tb_const 0 <|
  tb_istore 18 <|
  tb_head 130
def t_L_isSo_118 (bc bs : Nat) : am_T := tb_bin (fun x y => x + y) <|
  tb_istore 16 <|
  tb_iinc 18 1 <|
  tb_head 92
def t_L_isSo_117 (bc bs : Nat) : am_T := tb_const 0 <|
  t_L_isSo_118 bc bs
def t_L_isSo_92 (bc bs : Nat) : am_T := tb_iload 18 <|
  tb_aload 1 <|
  tb_const 9 <|
  tb_iald <|
  tb_ic (fun x y => y ≤ x) (t_L_isSo_127 bc bs) <|
  tb_iload 16 <|
  tb_aload 5 <|
  tb_iload 18 <|
  tb_iald <|
  tb_iload 15 <|
  tb_ic (fun x y => x ≠ y) (t_L_isSo_117 bc bs) <|
  tb_const 1 <|
  t_L_isSo_118 bc bs
def t_L_isSo_62 (bc bs : Nat) : am_T := tb_iload 14 <|
  tb_aload 1 <|
  tb_const 9 <|
  tb_iald <|
  tb_ic (fun x y => y ≤ x) (t_L_isSo_397 bc bs) <|
  tb_iload 13 <|
  tb_if (fun x => x = 0) (t_L_isSo_397 bc bs) <|
  tb_aload 8 <|
  tb_iload 14 <|
  tb_iald <|
  tb_istore 15 <|
  tb_const 0 <|
  tb_istore 16 <|
  tb_const 0 <|
  tb_istore 17 <|
  tb_const 0 <|
  tb_istore 18 <|
  tb_head 92
def t_L_isSo_0 (bc bs : Nat) : am_T := tb_const 12 <|
  tb_newa bc bs 1 <|
  tb_astore 5 <|
  tb_const 12 <|
  tb_newa bc bs 1 <|
  tb_astore 6 <|
  tb_const 12 <|
  tb_newa bc bs 1 <|
  tb_astore 7 <|
  tb_const 12 <|
  tb_newa bc bs 1 <|
  tb_astore 8 <|
  tb_aload 1 <|
  tb_aload 2 <|
  tb_aload 3 <|
  tb_aload 4 <|
  tb_aload 5 <|
  tb_aload 6 <|
  tb_aload 7 <|
  tb_callSA bc bs 2 24 sp_L_lays 7 <|
  tb_istore 9 <|
  tb_aload 1 <|
  tb_aload 3 <|
  tb_aload 8 <|
  tb_callS sp_L_orders 3 <|
  tb_const 0 <|
  tb_istore 10 <|
  tb_const 0 <|
  tb_istore 11 <|
  tb_const 0 <|
  tb_istore 12 <|
  tb_const 1 <|
  tb_istore 13 <|
  tb_const 0 <|
  tb_istore 14 <|
  tb_head 62
def h_L_isSo (bc bs : Nat) : am_Hd := fun h => if h = 0 then t_L_isSo_0 bc bs else if h = 62 then t_L_isSo_62 bc bs else if h = 92 then t_L_isSo_92 bc bs else if h = 130 then t_L_isSo_130 bc bs else if h = 400 then t_L_isSo_400 bc bs else if h = 600 then t_L_isSo_600 bc bs else tb_bad
theorem h_L_isSo_0 {bc bs : Nat} : h_L_isSo bc bs 0 = t_L_isSo_0 bc bs := rfl
theorem h_L_isSo_62 {bc bs : Nat} : h_L_isSo bc bs 62 = t_L_isSo_62 bc bs := rfl
theorem h_L_isSo_92 {bc bs : Nat} : h_L_isSo bc bs 92 = t_L_isSo_92 bc bs := rfl
theorem h_L_isSo_130 {bc bs : Nat} : h_L_isSo bc bs 130 = t_L_isSo_130 bc bs := rfl
theorem h_L_isSo_400 {bc bs : Nat} : h_L_isSo bc bs 400 = t_L_isSo_400 bc bs := rfl
theorem h_L_isSo_600 {bc bs : Nat} : h_L_isSo bc bs 600 = t_L_isSo_600 bc bs := rfl
def rm_L_isSo : Room := { frames := 7, cells := 6, slots := 72, locals := 169 }
def sp_L_isSo : am_sp := fun as M Q => as.length ≤ 19 ∧ am_OK (h_L_isSo (M.1.length + 6) (am_sz M.1 + 72)) Q 0 (am_in 19 as) M
theorem s_L_isSo_786 {G : am_G} {bc bs : Nat} (X : am_Cx G cL_isSo RL "isSo" rm_L_isSo (some .boolean) 19 bc bs true) : am_S G 786 (t_L_isSo_786 bc bs) := by
  unfold t_L_isSo_786
  exact as_zretA (pc := 786) X rfl dL_isSo_786
theorem s_L_isSo_785 {G : am_G} {bc bs : Nat} (X : am_Cx G cL_isSo RL "isSo" rm_L_isSo (some .boolean) 19 bc bs true) : am_S G 785 (t_L_isSo_785 bc bs) := by
  unfold t_L_isSo_785
  refine as_iconst (pc := 785) X dL_isSo_785 (by decide) ?_
  exact s_L_isSo_786 X
theorem s_L_isSo_641 {G : am_G} {bc bs : Nat} (X : am_Cx G cL_isSo RL "isSo" rm_L_isSo (some .boolean) 19 bc bs true) : am_S G 641 (t_L_isSo_641 bc bs) := by
  unfold t_L_isSo_641
  refine as_iload (pc := 641) X dL_isSo_641 ?_
  refine as_if_eq (pc := 643) X 785 dL_isSo_643 (by decide) (s_L_isSo_785 X) ?_
  refine as_iload (pc := 646) X dL_isSo_646 ?_
  refine as_iload (pc := 648) X dL_isSo_648 ?_
  refine as_iload (pc := 650) X dL_isSo_650 ?_
  refine as_iadd (pc := 652) X dL_isSo_652 ?_
  refine as_ic_ne (pc := 653) X 785 dL_isSo_653 (by decide) (s_L_isSo_785 X) ?_
  refine as_aload_n (pc := 656) X dL_isSo_656 rfl ?_
  refine as_aload_n (pc := 657) X dL_isSo_657 rfl ?_
  refine as_bipush (pc := 658) X dL_isSo_658 (by decide) ?_
  refine as_iald (pc := 660) X dL_isSo_660 ?_
  refine as_callV (ci := 4) (np := 1) (ix := 96) (pc := 661) X ct_X4_inOrder (Cn := (RX4, TX4, 7)) rfl ⟨rfl, rfl⟩ aw_276 aw_277 aw_278 aw_279 aw_17 (by decide +kernel) (by decide) dL_isSo_661 ?_
  refine as_bipush (pc := 664) X dL_isSo_664 (by decide) ?_
  refine as_ic_ne (pc := 666) X 785 dL_isSo_666 (by decide) (s_L_isSo_785 X) ?_
  refine as_aload_n (pc := 669) X dL_isSo_669 rfl ?_
  refine as_aload_n (pc := 670) X dL_isSo_670 rfl ?_
  refine as_bipush (pc := 671) X dL_isSo_671 (by decide) ?_
  refine as_iald (pc := 673) X dL_isSo_673 ?_
  refine as_iconst (pc := 674) X dL_isSo_674 (by decide) ?_
  refine as_callV (ci := 4) (np := 2) (ix := 99) (pc := 675) X ct_X4_lineOf (Cn := (RX4, TX4, 7)) rfl ⟨rfl, rfl⟩ aw_556 aw_557 aw_558 aw_559 aw_17 (by decide +kernel) (by decide) dL_isSo_675 ?_
  refine as_iconst (pc := 678) X dL_isSo_678 (by decide) ?_
  refine as_ic_ne (pc := 679) X 785 dL_isSo_679 (by decide) (s_L_isSo_785 X) ?_
  refine as_aload_n (pc := 682) X dL_isSo_682 rfl ?_
  refine as_aload_n (pc := 683) X dL_isSo_683 rfl ?_
  refine as_bipush (pc := 684) X dL_isSo_684 (by decide) ?_
  refine as_iald (pc := 686) X dL_isSo_686 ?_
  refine as_iconst (pc := 687) X dL_isSo_687 (by decide) ?_
  refine as_callV (ci := 4) (np := 2) (ix := 102) (pc := 688) X ct_X4_correction (Cn := (RX4, TX4, 7)) rfl ⟨rfl, rfl⟩ aw_561 aw_562 aw_563 aw_564 aw_17 (by decide +kernel) (by decide) dL_isSo_688 ?_
  refine as_iconst (pc := 691) X dL_isSo_691 (by decide) ?_
  refine as_ic_ne (pc := 692) X 785 dL_isSo_692 (by decide) (s_L_isSo_785 X) ?_
  refine as_aload_n (pc := 695) X dL_isSo_695 rfl ?_
  refine as_iconst (pc := 696) X dL_isSo_696 (by decide) ?_
  refine as_callV (ci := 4) (np := 1) (ix := 105) (pc := 697) X ct_X4_count (Cn := (RX4, TX4, 7)) rfl ⟨rfl, rfl⟩ aw_376 aw_377 aw_378 aw_379 aw_17 (by decide +kernel) (by decide) dL_isSo_697 ?_
  refine as_aload_n (pc := 700) X dL_isSo_700 rfl ?_
  refine as_bipush (pc := 701) X dL_isSo_701 (by decide) ?_
  refine as_iald (pc := 703) X dL_isSo_703 ?_
  refine as_ic_ne (pc := 704) X 785 dL_isSo_704 (by decide) (s_L_isSo_785 X) ?_
  refine as_aload_n (pc := 707) X dL_isSo_707 rfl ?_
  refine as_iconst (pc := 708) X dL_isSo_708 (by decide) ?_
  refine as_callV (ci := 4) (np := 1) (ix := 105) (pc := 709) X ct_X4_count (Cn := (RX4, TX4, 7)) rfl ⟨rfl, rfl⟩ aw_376 aw_377 aw_378 aw_379 aw_17 (by decide +kernel) (by decide) dL_isSo_709 ?_
  refine as_aload_n (pc := 712) X dL_isSo_712 rfl ?_
  refine as_bipush (pc := 713) X dL_isSo_713 (by decide) ?_
  refine as_iald (pc := 715) X dL_isSo_715 ?_
  refine as_ic_ne (pc := 716) X 785 dL_isSo_716 (by decide) (s_L_isSo_785 X) ?_
  refine as_aload_n (pc := 719) X dL_isSo_719 rfl ?_
  refine as_iconst (pc := 720) X dL_isSo_720 (by decide) ?_
  refine as_callV (ci := 4) (np := 1) (ix := 105) (pc := 721) X ct_X4_count (Cn := (RX4, TX4, 7)) rfl ⟨rfl, rfl⟩ aw_376 aw_377 aw_378 aw_379 aw_17 (by decide +kernel) (by decide) dL_isSo_721 ?_
  refine as_iload (pc := 724) X dL_isSo_724 ?_
  refine as_ic_ne (pc := 726) X 785 dL_isSo_726 (by decide) (s_L_isSo_785 X) ?_
  refine as_aload_n (pc := 729) X dL_isSo_729 rfl ?_
  refine as_iconst (pc := 730) X dL_isSo_730 (by decide) ?_
  refine as_callV (ci := 4) (np := 1) (ix := 105) (pc := 731) X ct_X4_count (Cn := (RX4, TX4, 7)) rfl ⟨rfl, rfl⟩ aw_376 aw_377 aw_378 aw_379 aw_17 (by decide +kernel) (by decide) dL_isSo_731 ?_
  refine as_iload (pc := 734) X dL_isSo_734 ?_
  refine as_ic_ne (pc := 736) X 785 dL_isSo_736 (by decide) (s_L_isSo_785 X) ?_
  refine as_aload_n (pc := 739) X dL_isSo_739 rfl ?_
  refine as_iconst (pc := 740) X dL_isSo_740 (by decide) ?_
  refine as_callV (ci := 4) (np := 1) (ix := 105) (pc := 741) X ct_X4_count (Cn := (RX4, TX4, 7)) rfl ⟨rfl, rfl⟩ aw_376 aw_377 aw_378 aw_379 aw_17 (by decide +kernel) (by decide) dL_isSo_741 ?_
  refine as_iload (pc := 744) X dL_isSo_744 ?_
  refine as_ic_ne (pc := 746) X 785 dL_isSo_746 (by decide) (s_L_isSo_785 X) ?_
  refine as_aload_n (pc := 749) X dL_isSo_749 rfl ?_
  refine as_iconst (pc := 750) X dL_isSo_750 (by decide) ?_
  refine as_callV (ci := 4) (np := 1) (ix := 105) (pc := 751) X ct_X4_count (Cn := (RX4, TX4, 7)) rfl ⟨rfl, rfl⟩ aw_376 aw_377 aw_378 aw_379 aw_17 (by decide +kernel) (by decide) dL_isSo_751 ?_
  refine as_iload (pc := 754) X dL_isSo_754 ?_
  refine as_ic_ne (pc := 756) X 785 dL_isSo_756 (by decide) (s_L_isSo_785 X) ?_
  refine as_aload_n (pc := 759) X dL_isSo_759 rfl ?_
  refine as_bipush (pc := 760) X dL_isSo_760 (by decide) ?_
  refine as_callV (ci := 4) (np := 1) (ix := 105) (pc := 762) X ct_X4_count (Cn := (RX4, TX4, 7)) rfl ⟨rfl, rfl⟩ aw_376 aw_377 aw_378 aw_379 aw_17 (by decide +kernel) (by decide) dL_isSo_762 ?_
  refine as_aload_n (pc := 765) X dL_isSo_765 rfl ?_
  refine as_bipush (pc := 766) X dL_isSo_766 (by decide) ?_
  refine as_iald (pc := 768) X dL_isSo_768 ?_
  refine as_ic_ne (pc := 769) X 785 dL_isSo_769 (by decide) (s_L_isSo_785 X) ?_
  refine as_aload_n (pc := 772) X dL_isSo_772 rfl ?_
  refine as_bipush (pc := 773) X dL_isSo_773 (by decide) ?_
  refine as_callV (ci := 4) (np := 1) (ix := 105) (pc := 775) X ct_X4_count (Cn := (RX4, TX4, 7)) rfl ⟨rfl, rfl⟩ aw_376 aw_377 aw_378 aw_379 aw_17 (by decide +kernel) (by decide) dL_isSo_775 ?_
  refine as_if_ne (pc := 778) X 785 dL_isSo_778 (by decide) (s_L_isSo_785 X) ?_
  refine as_iconst (pc := 781) X dL_isSo_781 (by decide) ?_
  exact as_goto (pc := 782) X 786 dL_isSo_782 (by decide) (s_L_isSo_786 X)
theorem s_L_isSo_633 {G : am_G} {bc bs : Nat} (X : am_Cx G cL_isSo RL "isSo" rm_L_isSo (some .boolean) 19 bc bs true) : am_S G 633 (t_L_isSo_633 bc bs) := by
  unfold t_L_isSo_633
  refine as_istore (pc := 633) X dL_isSo_633 ?_ (by decide)
  refine as_iinc (pc := 635) X dL_isSo_635 (by decide) (by decide) ?_
  exact as_goto (pc := 638) X 600 dL_isSo_638 (by decide) (as_head)
theorem s_L_isSo_632 {G : am_G} {bc bs : Nat} (X : am_Cx G cL_isSo RL "isSo" rm_L_isSo (some .boolean) 19 bc bs true) : am_S G 632 (t_L_isSo_632 bc bs) := by
  unfold t_L_isSo_632
  refine as_iconst (pc := 632) X dL_isSo_632 (by decide) ?_
  exact s_L_isSo_633 X
theorem s_L_isSo_600 {G : am_G} {bc bs : Nat} (X : am_Cx G cL_isSo RL "isSo" rm_L_isSo (some .boolean) 19 bc bs true) : am_S G 600 (t_L_isSo_600 bc bs) := by
  unfold t_L_isSo_600
  refine as_iload (pc := 600) X dL_isSo_600 ?_
  refine as_bipush (pc := 602) X dL_isSo_602 (by decide) ?_
  refine as_ic_ge (pc := 604) X 641 dL_isSo_604 (by decide) (s_L_isSo_641 X) ?_
  refine as_iload (pc := 607) X dL_isSo_607 ?_
  refine as_if_eq (pc := 609) X 632 dL_isSo_609 (by decide) (s_L_isSo_632 X) ?_
  refine as_aload_n (pc := 612) X dL_isSo_612 rfl ?_
  refine as_bipush (pc := 613) X dL_isSo_613 (by decide) ?_
  refine as_iload (pc := 615) X dL_isSo_615 ?_
  refine as_iadd (pc := 617) X dL_isSo_617 ?_
  refine as_callV (ci := 4) (np := 1) (ix := 105) (pc := 618) X ct_X4_count (Cn := (RX4, TX4, 7)) rfl ⟨rfl, rfl⟩ aw_376 aw_377 aw_378 aw_379 aw_17 (by decide +kernel) (by decide) dL_isSo_618 ?_
  refine as_aload_n (pc := 621) X dL_isSo_621 rfl ?_
  refine as_iload (pc := 622) X dL_isSo_622 ?_
  refine as_iald (pc := 624) X dL_isSo_624 ?_
  refine as_ic_ne (pc := 625) X 632 dL_isSo_625 (by decide) (s_L_isSo_632 X) ?_
  refine as_iconst (pc := 628) X dL_isSo_628 (by decide) ?_
  exact as_goto (pc := 629) X 633 dL_isSo_629 (by decide) (s_L_isSo_633 X)
theorem s_L_isSo_597 {G : am_G} {bc bs : Nat} (X : am_Cx G cL_isSo RL "isSo" rm_L_isSo (some .boolean) 19 bc bs true) : am_S G 597 (t_L_isSo_597 bc bs) := by
  unfold t_L_isSo_597
  refine as_iconst (pc := 597) X dL_isSo_597 (by decide) ?_
  refine as_istore (pc := 598) X dL_isSo_598 ?_ (by decide)
  exact as_head
theorem s_L_isSo_589 {G : am_G} {bc bs : Nat} (X : am_Cx G cL_isSo RL "isSo" rm_L_isSo (some .boolean) 19 bc bs true) : am_S G 589 (t_L_isSo_589 bc bs) := by
  unfold t_L_isSo_589
  refine as_istore (pc := 589) X dL_isSo_589 ?_ (by decide)
  refine as_iinc (pc := 591) X dL_isSo_591 (by decide) (by decide) ?_
  exact as_goto (pc := 594) X 400 dL_isSo_594 (by decide) (as_head)
theorem s_L_isSo_588 {G : am_G} {bc bs : Nat} (X : am_Cx G cL_isSo RL "isSo" rm_L_isSo (some .boolean) 19 bc bs true) : am_S G 588 (t_L_isSo_588 bc bs) := by
  unfold t_L_isSo_588
  refine as_iconst (pc := 588) X dL_isSo_588 (by decide) ?_
  exact s_L_isSo_589 X
theorem s_L_isSo_581 {G : am_G} {bc bs : Nat} (X : am_Cx G cL_isSo RL "isSo" rm_L_isSo (some .boolean) 19 bc bs true) : am_S G 581 (t_L_isSo_581 bc bs) := by
  unfold t_L_isSo_581
  refine as_ic_ne (pc := 581) X 588 dL_isSo_581 (by decide) (s_L_isSo_588 X) ?_
  refine as_iconst (pc := 584) X dL_isSo_584 (by decide) ?_
  exact as_goto (pc := 585) X 589 dL_isSo_585 (by decide) (s_L_isSo_589 X)
theorem s_L_isSo_580 {G : am_G} {bc bs : Nat} (X : am_Cx G cL_isSo RL "isSo" rm_L_isSo (some .boolean) 19 bc bs true) : am_S G 580 (t_L_isSo_580 bc bs) := by
  unfold t_L_isSo_580
  refine as_iconst (pc := 580) X dL_isSo_580 (by decide) ?_
  exact s_L_isSo_581 X
theorem s_L_isSo_507 {G : am_G} {bc bs : Nat} (X : am_Cx G cL_isSo RL "isSo" rm_L_isSo (some .boolean) 19 bc bs true) : am_S G 507 (t_L_isSo_507 bc bs) := by
  unfold t_L_isSo_507
  refine as_istore (pc := 507) X dL_isSo_507 ?_ (by decide)
  refine as_aload_n (pc := 509) X dL_isSo_509 rfl ?_
  refine as_iload (pc := 510) X dL_isSo_510 ?_
  refine as_iconst (pc := 512) X dL_isSo_512 (by decide) ?_
  refine as_callV (ci := 4) (np := 2) (ix := 102) (pc := 513) X ct_X4_correction (Cn := (RX4, TX4, 7)) rfl ⟨rfl, rfl⟩ aw_561 aw_562 aw_563 aw_564 aw_17 (by decide +kernel) (by decide) dL_isSo_513 ?_
  refine as_aload (pc := 516) X dL_isSo_516 ?_
  refine as_iconst (pc := 518) X dL_isSo_518 (by decide) ?_
  refine as_iload (pc := 519) X dL_isSo_519 ?_
  refine as_imul (pc := 521) X dL_isSo_521 ?_
  refine as_iald (pc := 522) X dL_isSo_522 ?_
  refine as_ic_ne (pc := 523) X 588 dL_isSo_523 (by decide) (s_L_isSo_588 X) ?_
  refine as_aload_n (pc := 526) X dL_isSo_526 rfl ?_
  refine as_iload (pc := 527) X dL_isSo_527 ?_
  refine as_iconst (pc := 529) X dL_isSo_529 (by decide) ?_
  refine as_callV (ci := 4) (np := 2) (ix := 102) (pc := 530) X ct_X4_correction (Cn := (RX4, TX4, 7)) rfl ⟨rfl, rfl⟩ aw_561 aw_562 aw_563 aw_564 aw_17 (by decide +kernel) (by decide) dL_isSo_530 ?_
  refine as_aload (pc := 533) X dL_isSo_533 ?_
  refine as_iconst (pc := 535) X dL_isSo_535 (by decide) ?_
  refine as_iload (pc := 536) X dL_isSo_536 ?_
  refine as_imul (pc := 538) X dL_isSo_538 ?_
  refine as_iconst (pc := 539) X dL_isSo_539 (by decide) ?_
  refine as_iadd (pc := 540) X dL_isSo_540 ?_
  refine as_iald (pc := 541) X dL_isSo_541 ?_
  refine as_ic_ne (pc := 542) X 588 dL_isSo_542 (by decide) (s_L_isSo_588 X) ?_
  refine as_aload_n (pc := 545) X dL_isSo_545 rfl ?_
  refine as_iload (pc := 546) X dL_isSo_546 ?_
  refine as_iconst (pc := 548) X dL_isSo_548 (by decide) ?_
  refine as_callV (ci := 4) (np := 2) (ix := 102) (pc := 549) X ct_X4_correction (Cn := (RX4, TX4, 7)) rfl ⟨rfl, rfl⟩ aw_561 aw_562 aw_563 aw_564 aw_17 (by decide +kernel) (by decide) dL_isSo_549 ?_
  refine as_aload (pc := 552) X dL_isSo_552 ?_
  refine as_iconst (pc := 554) X dL_isSo_554 (by decide) ?_
  refine as_iload (pc := 555) X dL_isSo_555 ?_
  refine as_imul (pc := 557) X dL_isSo_557 ?_
  refine as_iconst (pc := 558) X dL_isSo_558 (by decide) ?_
  refine as_iadd (pc := 559) X dL_isSo_559 ?_
  refine as_iald (pc := 560) X dL_isSo_560 ?_
  refine as_ic_ne (pc := 561) X 588 dL_isSo_561 (by decide) (s_L_isSo_588 X) ?_
  refine as_aload_n (pc := 564) X dL_isSo_564 rfl ?_
  refine as_iload (pc := 565) X dL_isSo_565 ?_
  refine as_iconst (pc := 567) X dL_isSo_567 (by decide) ?_
  refine as_callV (ci := 4) (np := 2) (ix := 102) (pc := 568) X ct_X4_correction (Cn := (RX4, TX4, 7)) rfl ⟨rfl, rfl⟩ aw_561 aw_562 aw_563 aw_564 aw_17 (by decide +kernel) (by decide) dL_isSo_568 ?_
  refine as_iload (pc := 571) X dL_isSo_571 ?_
  refine as_if_eq (pc := 573) X 580 dL_isSo_573 (by decide) (s_L_isSo_580 X) ?_
  refine as_iconst (pc := 576) X dL_isSo_576 (by decide) ?_
  exact as_goto (pc := 577) X 581 dL_isSo_577 (by decide) (s_L_isSo_581 X)
theorem s_L_isSo_506 {G : am_G} {bc bs : Nat} (X : am_Cx G cL_isSo RL "isSo" rm_L_isSo (some .boolean) 19 bc bs true) : am_S G 506 (t_L_isSo_506 bc bs) := by
  unfold t_L_isSo_506
  refine as_iconst (pc := 506) X dL_isSo_506 (by decide) ?_
  exact s_L_isSo_507 X
theorem s_L_isSo_453 {G : am_G} {bc bs : Nat} (X : am_Cx G cL_isSo RL "isSo" rm_L_isSo (some .boolean) 19 bc bs true) : am_S G 453 (t_L_isSo_453 bc bs) := by
  unfold t_L_isSo_453
  refine as_aload_n (pc := 453) X dL_isSo_453 rfl ?_
  refine as_aload (pc := 454) X dL_isSo_454 ?_
  refine as_aload (pc := 456) X dL_isSo_456 ?_
  refine as_iconst (pc := 458) X dL_isSo_458 (by decide) ?_
  refine as_iload (pc := 459) X dL_isSo_459 ?_
  refine as_imul (pc := 461) X dL_isSo_461 ?_
  refine as_iconst (pc := 462) X dL_isSo_462 (by decide) ?_
  refine as_iadd (pc := 463) X dL_isSo_463 ?_
  refine as_iald (pc := 464) X dL_isSo_464 ?_
  refine as_callS (np := 3) (ix := 31) (pc := 465) X ct_L_counts ⟨rfl, rfl⟩ aw_544 aw_545 aw_546 aw_16 (by decide +kernel) (by decide) dL_isSo_465 ?_
  refine as_if_ge (pc := 468) X 506 dL_isSo_468 (by decide) (s_L_isSo_506 X) ?_
  refine as_aload_n (pc := 471) X dL_isSo_471 rfl ?_
  refine as_aload_n (pc := 472) X dL_isSo_472 rfl ?_
  refine as_aload_n (pc := 473) X dL_isSo_473 rfl ?_
  refine as_aload (pc := 474) X dL_isSo_474 ?_
  refine as_aload (pc := 476) X dL_isSo_476 ?_
  refine as_iconst (pc := 478) X dL_isSo_478 (by decide) ?_
  refine as_iload (pc := 479) X dL_isSo_479 ?_
  refine as_imul (pc := 481) X dL_isSo_481 ?_
  refine as_iconst (pc := 482) X dL_isSo_482 (by decide) ?_
  refine as_iadd (pc := 483) X dL_isSo_483 ?_
  refine as_iald (pc := 484) X dL_isSo_484 ?_
  refine as_iload (pc := 485) X dL_isSo_485 ?_
  refine as_callS (np := 6) (ix := 43) (pc := 487) X ct_L_answer ⟨rfl, rfl⟩ aw_541 aw_542 aw_543 aw_16 (by decide +kernel) (by decide) dL_isSo_487 ?_
  refine as_aload (pc := 490) X dL_isSo_490 ?_
  refine as_iconst (pc := 492) X dL_isSo_492 (by decide) ?_
  refine as_iload (pc := 493) X dL_isSo_493 ?_
  refine as_imul (pc := 495) X dL_isSo_495 ?_
  refine as_iconst (pc := 496) X dL_isSo_496 (by decide) ?_
  refine as_iadd (pc := 497) X dL_isSo_497 ?_
  refine as_iald (pc := 498) X dL_isSo_498 ?_
  refine as_ic_ne (pc := 499) X 506 dL_isSo_499 (by decide) (s_L_isSo_506 X) ?_
  refine as_iconst (pc := 502) X dL_isSo_502 (by decide) ?_
  exact as_goto (pc := 503) X 507 dL_isSo_503 (by decide) (s_L_isSo_507 X)
theorem s_L_isSo_449 {G : am_G} {bc bs : Nat} (X : am_Cx G cL_isSo RL "isSo" rm_L_isSo (some .boolean) 19 bc bs true) : am_S G 449 (t_L_isSo_449 bc bs) := by
  unfold t_L_isSo_449
  refine as_iconst (pc := 449) X dL_isSo_449 (by decide) ?_
  exact as_goto (pc := 450) X 507 dL_isSo_450 (by decide) (s_L_isSo_507 X)
theorem s_L_isSo_400 {G : am_G} {bc bs : Nat} (X : am_Cx G cL_isSo RL "isSo" rm_L_isSo (some .boolean) 19 bc bs true) : am_S G 400 (t_L_isSo_400 bc bs) := by
  unfold t_L_isSo_400
  refine as_iload (pc := 400) X dL_isSo_400 ?_
  refine as_aload_n (pc := 402) X dL_isSo_402 rfl ?_
  refine as_bipush (pc := 403) X dL_isSo_403 (by decide) ?_
  refine as_iald (pc := 405) X dL_isSo_405 ?_
  refine as_ic_ge (pc := 406) X 597 dL_isSo_406 (by decide) (s_L_isSo_597 X) ?_
  refine as_iload (pc := 409) X dL_isSo_409 ?_
  refine as_if_eq (pc := 411) X 597 dL_isSo_411 (by decide) (s_L_isSo_597 X) ?_
  refine as_aload (pc := 414) X dL_isSo_414 ?_
  refine as_iconst (pc := 416) X dL_isSo_416 (by decide) ?_
  refine as_iload (pc := 417) X dL_isSo_417 ?_
  refine as_imul (pc := 419) X dL_isSo_419 ?_
  refine as_iald (pc := 420) X dL_isSo_420 ?_
  refine as_iconst (pc := 421) X dL_isSo_421 (by decide) ?_
  refine as_ic_ge (pc := 422) X 453 dL_isSo_422 (by decide) (s_L_isSo_453 X) ?_
  refine as_aload_n (pc := 425) X dL_isSo_425 rfl ?_
  refine as_aload (pc := 426) X dL_isSo_426 ?_
  refine as_aload (pc := 428) X dL_isSo_428 ?_
  refine as_iconst (pc := 430) X dL_isSo_430 (by decide) ?_
  refine as_iload (pc := 431) X dL_isSo_431 ?_
  refine as_imul (pc := 433) X dL_isSo_433 ?_
  refine as_iconst (pc := 434) X dL_isSo_434 (by decide) ?_
  refine as_iadd (pc := 435) X dL_isSo_435 ?_
  refine as_iald (pc := 436) X dL_isSo_436 ?_
  refine as_callS (np := 3) (ix := 31) (pc := 437) X ct_L_counts ⟨rfl, rfl⟩ aw_544 aw_545 aw_546 aw_16 (by decide +kernel) (by decide) dL_isSo_437 ?_
  refine as_iload (pc := 440) X dL_isSo_440 ?_
  refine as_ic_ne (pc := 442) X 449 dL_isSo_442 (by decide) (s_L_isSo_449 X) ?_
  refine as_iconst (pc := 445) X dL_isSo_445 (by decide) ?_
  exact as_goto (pc := 446) X 507 dL_isSo_446 (by decide) (s_L_isSo_507 X)
theorem s_L_isSo_397 {G : am_G} {bc bs : Nat} (X : am_Cx G cL_isSo RL "isSo" rm_L_isSo (some .boolean) 19 bc bs true) : am_S G 397 (t_L_isSo_397 bc bs) := by
  unfold t_L_isSo_397
  refine as_iconst (pc := 397) X dL_isSo_397 (by decide) ?_
  refine as_istore (pc := 398) X dL_isSo_398 ?_ (by decide)
  exact as_head
theorem s_L_isSo_389 {G : am_G} {bc bs : Nat} (X : am_Cx G cL_isSo RL "isSo" rm_L_isSo (some .boolean) 19 bc bs true) : am_S G 389 (t_L_isSo_389 bc bs) := by
  unfold t_L_isSo_389
  refine as_istore (pc := 389) X dL_isSo_389 ?_ (by decide)
  refine as_iinc (pc := 391) X dL_isSo_391 (by decide) (by decide) ?_
  exact as_goto (pc := 394) X 62 dL_isSo_394 (by decide) (as_head)
theorem s_L_isSo_388 {G : am_G} {bc bs : Nat} (X : am_Cx G cL_isSo RL "isSo" rm_L_isSo (some .boolean) 19 bc bs true) : am_S G 388 (t_L_isSo_388 bc bs) := by
  unfold t_L_isSo_388
  refine as_iconst (pc := 388) X dL_isSo_388 (by decide) ?_
  exact s_L_isSo_389 X
theorem s_L_isSo_215 {G : am_G} {bc bs : Nat} (X : am_Cx G cL_isSo RL "isSo" rm_L_isSo (some .boolean) 19 bc bs true) : am_S G 215 (t_L_isSo_215 bc bs) := by
  unfold t_L_isSo_215
  refine as_iadd (pc := 215) X dL_isSo_215 ?_
  refine as_istore (pc := 216) X dL_isSo_216 ?_ (by decide)
  refine as_aload_n (pc := 218) X dL_isSo_218 rfl ?_
  refine as_iload (pc := 219) X dL_isSo_219 ?_
  refine as_callV (ci := 4) (np := 1) (ix := 96) (pc := 221) X ct_X4_inOrder (Cn := (RX4, TX4, 7)) rfl ⟨rfl, rfl⟩ aw_276 aw_277 aw_278 aw_279 aw_17 (by decide +kernel) (by decide) dL_isSo_221 ?_
  refine as_iload (pc := 224) X dL_isSo_224 ?_
  refine as_ic_ne (pc := 226) X 388 dL_isSo_226 (by decide) (s_L_isSo_388 X) ?_
  refine as_aload_n (pc := 229) X dL_isSo_229 rfl ?_
  refine as_iload (pc := 230) X dL_isSo_230 ?_
  refine as_iconst (pc := 232) X dL_isSo_232 (by decide) ?_
  refine as_callV (ci := 4) (np := 2) (ix := 99) (pc := 233) X ct_X4_lineOf (Cn := (RX4, TX4, 7)) rfl ⟨rfl, rfl⟩ aw_556 aw_557 aw_558 aw_559 aw_17 (by decide +kernel) (by decide) dL_isSo_233 ?_
  refine as_aload_n (pc := 236) X dL_isSo_236 rfl ?_
  refine as_iconst (pc := 237) X dL_isSo_237 (by decide) ?_
  refine as_iload (pc := 238) X dL_isSo_238 ?_
  refine as_imul (pc := 240) X dL_isSo_240 ?_
  refine as_iald (pc := 241) X dL_isSo_241 ?_
  refine as_ic_ne (pc := 242) X 388 dL_isSo_242 (by decide) (s_L_isSo_388 X) ?_
  refine as_aload_n (pc := 245) X dL_isSo_245 rfl ?_
  refine as_iload (pc := 246) X dL_isSo_246 ?_
  refine as_iconst (pc := 248) X dL_isSo_248 (by decide) ?_
  refine as_callV (ci := 4) (np := 2) (ix := 99) (pc := 249) X ct_X4_lineOf (Cn := (RX4, TX4, 7)) rfl ⟨rfl, rfl⟩ aw_556 aw_557 aw_558 aw_559 aw_17 (by decide +kernel) (by decide) dL_isSo_249 ?_
  refine as_aload_n (pc := 252) X dL_isSo_252 rfl ?_
  refine as_iconst (pc := 253) X dL_isSo_253 (by decide) ?_
  refine as_iload (pc := 254) X dL_isSo_254 ?_
  refine as_imul (pc := 256) X dL_isSo_256 ?_
  refine as_iconst (pc := 257) X dL_isSo_257 (by decide) ?_
  refine as_iadd (pc := 258) X dL_isSo_258 ?_
  refine as_iald (pc := 259) X dL_isSo_259 ?_
  refine as_ic_ne (pc := 260) X 388 dL_isSo_260 (by decide) (s_L_isSo_388 X) ?_
  refine as_aload_n (pc := 263) X dL_isSo_263 rfl ?_
  refine as_iload (pc := 264) X dL_isSo_264 ?_
  refine as_iconst (pc := 266) X dL_isSo_266 (by decide) ?_
  refine as_callV (ci := 4) (np := 2) (ix := 99) (pc := 267) X ct_X4_lineOf (Cn := (RX4, TX4, 7)) rfl ⟨rfl, rfl⟩ aw_556 aw_557 aw_558 aw_559 aw_17 (by decide +kernel) (by decide) dL_isSo_267 ?_
  refine as_aload_n (pc := 270) X dL_isSo_270 rfl ?_
  refine as_iconst (pc := 271) X dL_isSo_271 (by decide) ?_
  refine as_iload (pc := 272) X dL_isSo_272 ?_
  refine as_imul (pc := 274) X dL_isSo_274 ?_
  refine as_iconst (pc := 275) X dL_isSo_275 (by decide) ?_
  refine as_iadd (pc := 276) X dL_isSo_276 ?_
  refine as_iald (pc := 277) X dL_isSo_277 ?_
  refine as_ic_ne (pc := 278) X 388 dL_isSo_278 (by decide) (s_L_isSo_388 X) ?_
  refine as_aload_n (pc := 281) X dL_isSo_281 rfl ?_
  refine as_iload (pc := 282) X dL_isSo_282 ?_
  refine as_iconst (pc := 284) X dL_isSo_284 (by decide) ?_
  refine as_callV (ci := 4) (np := 2) (ix := 99) (pc := 285) X ct_X4_lineOf (Cn := (RX4, TX4, 7)) rfl ⟨rfl, rfl⟩ aw_556 aw_557 aw_558 aw_559 aw_17 (by decide +kernel) (by decide) dL_isSo_285 ?_
  refine as_aload_n (pc := 288) X dL_isSo_288 rfl ?_
  refine as_iconst (pc := 289) X dL_isSo_289 (by decide) ?_
  refine as_iload (pc := 290) X dL_isSo_290 ?_
  refine as_imul (pc := 292) X dL_isSo_292 ?_
  refine as_iconst (pc := 293) X dL_isSo_293 (by decide) ?_
  refine as_iadd (pc := 294) X dL_isSo_294 ?_
  refine as_iald (pc := 295) X dL_isSo_295 ?_
  refine as_ic_ne (pc := 296) X 388 dL_isSo_296 (by decide) (s_L_isSo_388 X) ?_
  refine as_aload_n (pc := 299) X dL_isSo_299 rfl ?_
  refine as_iload (pc := 300) X dL_isSo_300 ?_
  refine as_iconst (pc := 302) X dL_isSo_302 (by decide) ?_
  refine as_callV (ci := 4) (np := 2) (ix := 99) (pc := 303) X ct_X4_lineOf (Cn := (RX4, TX4, 7)) rfl ⟨rfl, rfl⟩ aw_556 aw_557 aw_558 aw_559 aw_17 (by decide +kernel) (by decide) dL_isSo_303 ?_
  refine as_iload (pc := 306) X dL_isSo_306 ?_
  refine as_ic_ne (pc := 308) X 388 dL_isSo_308 (by decide) (s_L_isSo_388 X) ?_
  refine as_aload_n (pc := 311) X dL_isSo_311 rfl ?_
  refine as_iload (pc := 312) X dL_isSo_312 ?_
  refine as_iconst (pc := 314) X dL_isSo_314 (by decide) ?_
  refine as_callV (ci := 4) (np := 2) (ix := 99) (pc := 315) X ct_X4_lineOf (Cn := (RX4, TX4, 7)) rfl ⟨rfl, rfl⟩ aw_556 aw_557 aw_558 aw_559 aw_17 (by decide +kernel) (by decide) dL_isSo_315 ?_
  refine as_aload (pc := 318) X dL_isSo_318 ?_
  refine as_iload (pc := 320) X dL_isSo_320 ?_
  refine as_iald (pc := 322) X dL_isSo_322 ?_
  refine as_ic_ne (pc := 323) X 388 dL_isSo_323 (by decide) (s_L_isSo_388 X) ?_
  refine as_aload_n (pc := 326) X dL_isSo_326 rfl ?_
  refine as_iload (pc := 327) X dL_isSo_327 ?_
  refine as_bipush (pc := 329) X dL_isSo_329 (by decide) ?_
  refine as_callV (ci := 4) (np := 2) (ix := 99) (pc := 331) X ct_X4_lineOf (Cn := (RX4, TX4, 7)) rfl ⟨rfl, rfl⟩ aw_556 aw_557 aw_558 aw_559 aw_17 (by decide +kernel) (by decide) dL_isSo_331 ?_
  refine as_aload (pc := 334) X dL_isSo_334 ?_
  refine as_iload (pc := 336) X dL_isSo_336 ?_
  refine as_iald (pc := 338) X dL_isSo_338 ?_
  refine as_ic_ne (pc := 339) X 388 dL_isSo_339 (by decide) (s_L_isSo_388 X) ?_
  refine as_aload_n (pc := 342) X dL_isSo_342 rfl ?_
  refine as_iload (pc := 343) X dL_isSo_343 ?_
  refine as_bipush (pc := 345) X dL_isSo_345 (by decide) ?_
  refine as_callV (ci := 4) (np := 2) (ix := 99) (pc := 347) X ct_X4_lineOf (Cn := (RX4, TX4, 7)) rfl ⟨rfl, rfl⟩ aw_556 aw_557 aw_558 aw_559 aw_17 (by decide +kernel) (by decide) dL_isSo_347 ?_
  refine as_iload (pc := 350) X dL_isSo_350 ?_
  refine as_ic_ne (pc := 352) X 388 dL_isSo_352 (by decide) (s_L_isSo_388 X) ?_
  refine as_aload_n (pc := 355) X dL_isSo_355 rfl ?_
  refine as_iload (pc := 356) X dL_isSo_356 ?_
  refine as_bipush (pc := 358) X dL_isSo_358 (by decide) ?_
  refine as_callV (ci := 4) (np := 2) (ix := 99) (pc := 360) X ct_X4_lineOf (Cn := (RX4, TX4, 7)) rfl ⟨rfl, rfl⟩ aw_556 aw_557 aw_558 aw_559 aw_17 (by decide +kernel) (by decide) dL_isSo_360 ?_
  refine as_aload (pc := 363) X dL_isSo_363 ?_
  refine as_iload (pc := 365) X dL_isSo_365 ?_
  refine as_iald (pc := 367) X dL_isSo_367 ?_
  refine as_ic_ne (pc := 368) X 388 dL_isSo_368 (by decide) (s_L_isSo_388 X) ?_
  refine as_aload_n (pc := 371) X dL_isSo_371 rfl ?_
  refine as_iload (pc := 372) X dL_isSo_372 ?_
  refine as_bipush (pc := 374) X dL_isSo_374 (by decide) ?_
  refine as_callV (ci := 4) (np := 2) (ix := 99) (pc := 376) X ct_X4_lineOf (Cn := (RX4, TX4, 7)) rfl ⟨rfl, rfl⟩ aw_556 aw_557 aw_558 aw_559 aw_17 (by decide +kernel) (by decide) dL_isSo_376 ?_
  refine as_iload (pc := 379) X dL_isSo_379 ?_
  refine as_ic_ne (pc := 381) X 388 dL_isSo_381 (by decide) (s_L_isSo_388 X) ?_
  refine as_iconst (pc := 384) X dL_isSo_384 (by decide) ?_
  exact as_goto (pc := 385) X 389 dL_isSo_385 (by decide) (s_L_isSo_389 X)
theorem s_L_isSo_214 {G : am_G} {bc bs : Nat} (X : am_Cx G cL_isSo RL "isSo" rm_L_isSo (some .boolean) 19 bc bs true) : am_S G 214 (t_L_isSo_214 bc bs) := by
  unfold t_L_isSo_214
  refine as_iconst (pc := 214) X dL_isSo_214 (by decide) ?_
  exact s_L_isSo_215 X
theorem s_L_isSo_184 {G : am_G} {bc bs : Nat} (X : am_Cx G cL_isSo RL "isSo" rm_L_isSo (some .boolean) 19 bc bs true) : am_S G 184 (t_L_isSo_184 bc bs) := by
  unfold t_L_isSo_184
  refine as_iadd (pc := 184) X dL_isSo_184 ?_
  refine as_istore (pc := 185) X dL_isSo_185 ?_ (by decide)
  refine as_iload (pc := 187) X dL_isSo_187 ?_
  refine as_aload (pc := 189) X dL_isSo_189 ?_
  refine as_iload (pc := 191) X dL_isSo_191 ?_
  refine as_iald (pc := 193) X dL_isSo_193 ?_
  refine as_iadd (pc := 194) X dL_isSo_194 ?_
  refine as_istore (pc := 195) X dL_isSo_195 ?_ (by decide)
  refine as_iload (pc := 197) X dL_isSo_197 ?_
  refine as_aload_n (pc := 199) X dL_isSo_199 rfl ?_
  refine as_aload (pc := 200) X dL_isSo_200 ?_
  refine as_iload (pc := 202) X dL_isSo_202 ?_
  refine as_callS (np := 3) (ix := 31) (pc := 204) X ct_L_counts ⟨rfl, rfl⟩ aw_544 aw_545 aw_546 aw_16 (by decide +kernel) (by decide) dL_isSo_204 ?_
  refine as_if_ge (pc := 207) X 214 dL_isSo_207 (by decide) (s_L_isSo_214 X) ?_
  refine as_iconst (pc := 210) X dL_isSo_210 (by decide) ?_
  exact as_goto (pc := 211) X 215 dL_isSo_211 (by decide) (s_L_isSo_215 X)
theorem s_L_isSo_183 {G : am_G} {bc bs : Nat} (X : am_Cx G cL_isSo RL "isSo" rm_L_isSo (some .boolean) 19 bc bs true) : am_S G 183 (t_L_isSo_183 bc bs) := by
  unfold t_L_isSo_183
  refine as_iconst (pc := 183) X dL_isSo_183 (by decide) ?_
  exact s_L_isSo_184 X
theorem s_L_isSo_169 {G : am_G} {bc bs : Nat} (X : am_Cx G cL_isSo RL "isSo" rm_L_isSo (some .boolean) 19 bc bs true) : am_S G 169 (t_L_isSo_169 bc bs) := by
  unfold t_L_isSo_169
  refine as_iload (pc := 169) X dL_isSo_169 ?_
  refine as_aload (pc := 171) X dL_isSo_171 ?_
  refine as_iload (pc := 173) X dL_isSo_173 ?_
  refine as_iald (pc := 175) X dL_isSo_175 ?_
  refine as_if_ge (pc := 176) X 183 dL_isSo_176 (by decide) (s_L_isSo_183 X) ?_
  refine as_iconst (pc := 179) X dL_isSo_179 (by decide) ?_
  exact as_goto (pc := 180) X 184 dL_isSo_180 (by decide) (s_L_isSo_184 X)
theorem s_L_isSo_160 {G : am_G} {bc bs : Nat} (X : am_Cx G cL_isSo RL "isSo" rm_L_isSo (some .boolean) 19 bc bs true) : am_S G 160 (t_L_isSo_160 bc bs) := by
  unfold t_L_isSo_160
  refine as_ior (pc := 160) X dL_isSo_160 ?_
  refine as_istore (pc := 161) X dL_isSo_161 ?_ (by decide)
  refine as_iinc (pc := 163) X dL_isSo_163 (by decide) (by decide) ?_
  exact as_goto (pc := 166) X 130 dL_isSo_166 (by decide) (as_head)
theorem s_L_isSo_159 {G : am_G} {bc bs : Nat} (X : am_Cx G cL_isSo RL "isSo" rm_L_isSo (some .boolean) 19 bc bs true) : am_S G 159 (t_L_isSo_159 bc bs) := by
  unfold t_L_isSo_159
  refine as_iconst (pc := 159) X dL_isSo_159 (by decide) ?_
  exact s_L_isSo_160 X
theorem s_L_isSo_130 {G : am_G} {bc bs : Nat} (X : am_Cx G cL_isSo RL "isSo" rm_L_isSo (some .boolean) 19 bc bs true) : am_S G 130 (t_L_isSo_130 bc bs) := by
  unfold t_L_isSo_130
  refine as_iload (pc := 130) X dL_isSo_130 ?_
  refine as_bipush (pc := 132) X dL_isSo_132 (by decide) ?_
  refine as_ic_ge (pc := 134) X 169 dL_isSo_134 (by decide) (s_L_isSo_169 X) ?_
  refine as_iload (pc := 137) X dL_isSo_137 ?_
  refine as_aload_n (pc := 139) X dL_isSo_139 rfl ?_
  refine as_aload_n (pc := 140) X dL_isSo_140 rfl ?_
  refine as_aload_n (pc := 141) X dL_isSo_141 rfl ?_
  refine as_iload (pc := 142) X dL_isSo_142 ?_
  refine as_iload (pc := 144) X dL_isSo_144 ?_
  refine as_callS (np := 5) (ix := 15) (pc := 146) X ct_L_speaks ⟨rfl, rfl⟩ aw_553 aw_554 aw_555 aw_16 (by decide +kernel) (by decide) dL_isSo_146 ?_
  refine as_if_eq (pc := 149) X 159 dL_isSo_149 (by decide) (s_L_isSo_159 X) ?_
  refine as_iconst (pc := 152) X dL_isSo_152 (by decide) ?_
  refine as_iload (pc := 153) X dL_isSo_153 ?_
  refine as_ishl (pc := 155) X dL_isSo_155 ?_
  exact as_goto (pc := 156) X 160 dL_isSo_156 (by decide) (s_L_isSo_160 X)
theorem s_L_isSo_127 {G : am_G} {bc bs : Nat} (X : am_Cx G cL_isSo RL "isSo" rm_L_isSo (some .boolean) 19 bc bs true) : am_S G 127 (t_L_isSo_127 bc bs) := by
  unfold t_L_isSo_127
  refine as_iconst (pc := 127) X dL_isSo_127 (by decide) ?_
  refine as_istore (pc := 128) X dL_isSo_128 ?_ (by decide)
  exact as_head
theorem s_L_isSo_118 {G : am_G} {bc bs : Nat} (X : am_Cx G cL_isSo RL "isSo" rm_L_isSo (some .boolean) 19 bc bs true) : am_S G 118 (t_L_isSo_118 bc bs) := by
  unfold t_L_isSo_118
  refine as_iadd (pc := 118) X dL_isSo_118 ?_
  refine as_istore (pc := 119) X dL_isSo_119 ?_ (by decide)
  refine as_iinc (pc := 121) X dL_isSo_121 (by decide) (by decide) ?_
  exact as_goto (pc := 124) X 92 dL_isSo_124 (by decide) (as_head)
theorem s_L_isSo_117 {G : am_G} {bc bs : Nat} (X : am_Cx G cL_isSo RL "isSo" rm_L_isSo (some .boolean) 19 bc bs true) : am_S G 117 (t_L_isSo_117 bc bs) := by
  unfold t_L_isSo_117
  refine as_iconst (pc := 117) X dL_isSo_117 (by decide) ?_
  exact s_L_isSo_118 X
theorem s_L_isSo_92 {G : am_G} {bc bs : Nat} (X : am_Cx G cL_isSo RL "isSo" rm_L_isSo (some .boolean) 19 bc bs true) : am_S G 92 (t_L_isSo_92 bc bs) := by
  unfold t_L_isSo_92
  refine as_iload (pc := 92) X dL_isSo_92 ?_
  refine as_aload_n (pc := 94) X dL_isSo_94 rfl ?_
  refine as_bipush (pc := 95) X dL_isSo_95 (by decide) ?_
  refine as_iald (pc := 97) X dL_isSo_97 ?_
  refine as_ic_ge (pc := 98) X 127 dL_isSo_98 (by decide) (s_L_isSo_127 X) ?_
  refine as_iload (pc := 101) X dL_isSo_101 ?_
  refine as_aload (pc := 103) X dL_isSo_103 ?_
  refine as_iload (pc := 105) X dL_isSo_105 ?_
  refine as_iald (pc := 107) X dL_isSo_107 ?_
  refine as_iload (pc := 108) X dL_isSo_108 ?_
  refine as_ic_ne (pc := 110) X 117 dL_isSo_110 (by decide) (s_L_isSo_117 X) ?_
  refine as_iconst (pc := 113) X dL_isSo_113 (by decide) ?_
  exact as_goto (pc := 114) X 118 dL_isSo_114 (by decide) (s_L_isSo_118 X)
theorem s_L_isSo_62 {G : am_G} {bc bs : Nat} (X : am_Cx G cL_isSo RL "isSo" rm_L_isSo (some .boolean) 19 bc bs true) : am_S G 62 (t_L_isSo_62 bc bs) := by
  unfold t_L_isSo_62
  refine as_iload (pc := 62) X dL_isSo_62 ?_
  refine as_aload_n (pc := 64) X dL_isSo_64 rfl ?_
  refine as_bipush (pc := 65) X dL_isSo_65 (by decide) ?_
  refine as_iald (pc := 67) X dL_isSo_67 ?_
  refine as_ic_ge (pc := 68) X 397 dL_isSo_68 (by decide) (s_L_isSo_397 X) ?_
  refine as_iload (pc := 71) X dL_isSo_71 ?_
  refine as_if_eq (pc := 73) X 397 dL_isSo_73 (by decide) (s_L_isSo_397 X) ?_
  refine as_aload (pc := 76) X dL_isSo_76 ?_
  refine as_iload (pc := 78) X dL_isSo_78 ?_
  refine as_iald (pc := 80) X dL_isSo_80 ?_
  refine as_istore (pc := 81) X dL_isSo_81 ?_ (by decide)
  refine as_iconst (pc := 83) X dL_isSo_83 (by decide) ?_
  refine as_istore (pc := 84) X dL_isSo_84 ?_ (by decide)
  refine as_iconst (pc := 86) X dL_isSo_86 (by decide) ?_
  refine as_istore (pc := 87) X dL_isSo_87 ?_ (by decide)
  refine as_iconst (pc := 89) X dL_isSo_89 (by decide) ?_
  refine as_istore (pc := 90) X dL_isSo_90 ?_ (by decide)
  exact as_head
theorem s_L_isSo_0 {G : am_G} {bc bs : Nat} (X : am_Cx G cL_isSo RL "isSo" rm_L_isSo (some .boolean) 19 bc bs true) : am_S G 0 (t_L_isSo_0 bc bs) := by
  unfold t_L_isSo_0
  refine as_bipush (pc := 0) X dL_isSo_0 (by decide) ?_
  refine as_newa1 (pc := 2) X aw_113 dL_isSo_2 ?_
  refine as_astore (pc := 4) X dL_isSo_4 ?_ (by decide)
  refine as_bipush (pc := 6) X dL_isSo_6 (by decide) ?_
  refine as_newa1 (pc := 8) X aw_113 dL_isSo_8 ?_
  refine as_astore (pc := 10) X dL_isSo_10 ?_ (by decide)
  refine as_bipush (pc := 12) X dL_isSo_12 (by decide) ?_
  refine as_newa1 (pc := 14) X aw_113 dL_isSo_14 ?_
  refine as_astore (pc := 16) X dL_isSo_16 ?_ (by decide)
  refine as_bipush (pc := 18) X dL_isSo_18 (by decide) ?_
  refine as_newa1 (pc := 20) X aw_113 dL_isSo_20 ?_
  refine as_astore (pc := 22) X dL_isSo_22 ?_ (by decide)
  refine as_aload_n (pc := 24) X dL_isSo_24 rfl ?_
  refine as_aload_n (pc := 25) X dL_isSo_25 rfl ?_
  refine as_aload_n (pc := 26) X dL_isSo_26 rfl ?_
  refine as_aload (pc := 27) X dL_isSo_27 ?_
  refine as_aload (pc := 29) X dL_isSo_29 ?_
  refine as_aload (pc := 31) X dL_isSo_31 ?_
  refine as_aload (pc := 33) X dL_isSo_33 ?_
  refine as_callSA (np := 7) (ix := 92) (pc := 35) X ct_L_lays aw_535 aw_536 aw_537 aw_16 (by decide +kernel) (by decide) dL_isSo_35 ?_
  refine as_istore (pc := 38) X dL_isSo_38 ?_ (by decide)
  refine as_aload_n (pc := 40) X dL_isSo_40 rfl ?_
  refine as_aload_n (pc := 41) X dL_isSo_41 rfl ?_
  refine as_aload (pc := 42) X dL_isSo_42 ?_
  refine as_callS (np := 3) (ix := 39) (pc := 44) X ct_L_orders ⟨rfl, rfl⟩ aw_538 aw_539 aw_540 aw_16 (by decide +kernel) (by decide) dL_isSo_44 ?_
  refine as_iconst (pc := 47) X dL_isSo_47 (by decide) ?_
  refine as_istore (pc := 48) X dL_isSo_48 ?_ (by decide)
  refine as_iconst (pc := 50) X dL_isSo_50 (by decide) ?_
  refine as_istore (pc := 51) X dL_isSo_51 ?_ (by decide)
  refine as_iconst (pc := 53) X dL_isSo_53 (by decide) ?_
  refine as_istore (pc := 54) X dL_isSo_54 ?_ (by decide)
  refine as_iconst (pc := 56) X dL_isSo_56 (by decide) ?_
  refine as_istore (pc := 57) X dL_isSo_57 ?_ (by decide)
  refine as_iconst (pc := 59) X dL_isSo_59 (by decide) ?_
  refine as_istore (pc := 60) X dL_isSo_60 ?_ (by decide)
  exact as_head
theorem s_L_isSo {G : am_G} {bc bs : Nat} (X : am_Cx G cL_isSo RL "isSo" rm_L_isSo (some .boolean) 19 bc bs true) (h : Nat) : am_S G h (h_L_isSo bc bs h) := by
  unfold h_L_isSo
  split
  · next e => rw [e]; exact s_L_isSo_0 X
  split
  · next e => rw [e]; exact s_L_isSo_62 X
  split
  · next e => rw [e]; exact s_L_isSo_92 X
  split
  · next e => rw [e]; exact s_L_isSo_130 X
  split
  · next e => rw [e]; exact s_L_isSo_400 X
  split
  · next e => rw [e]; exact s_L_isSo_600 X
  exact as_bad
theorem ct_L_isSo : am_Ct yL_isSo cL_isSo 19 (some .boolean) rm_L_isSo sp_L_isSo := am_met (own := RL) (nm := "isSo") (by decide) rfl rfl (Or.inr (Or.inr (Or.inl rfl))) (fun bc bs => h_L_isSo bc bs) (fun _ _ _ X => s_L_isSo X) (fun _ _ _ _ h => h)
-- L_cell
theorem dL_cell_0 : decode cL_cell 0 = .ok (.iload_n 1, 1) := by decide +kernel
theorem dL_cell_1 : decode cL_cell 1 = .ok (.aload_n 0, 1) := by decide +kernel
theorem dL_cell_2 : decode cL_cell 2 = .ok (.arraylength, 1) := by decide +kernel
theorem dL_cell_3 : decode cL_cell 3 = .ok (.if_icmp .ge 9, 3) := by decide +kernel
theorem dL_cell_6 : decode cL_cell 6 = .ok (.aload_n 0, 1) := by decide +kernel
theorem dL_cell_7 : decode cL_cell 7 = .ok (.iload_n 1, 1) := by decide +kernel
theorem dL_cell_8 : decode cL_cell 8 = .ok (.iaload, 1) := by decide +kernel
theorem dL_cell_9 : decode cL_cell 9 = .ok (.goto 9, 3) := by decide +kernel
theorem dL_cell_12 : decode cL_cell 12 = .ok (.ldc 7, 2) := by decide +kernel
theorem dL_cell_14 : decode cL_cell 14 = .ok (.iload_n 1, 1) := by decide +kernel
theorem dL_cell_15 : decode cL_cell 15 = .ok (.iconst 3, 1) := by decide +kernel
theorem dL_cell_16 : decode cL_cell 16 = .ok (.iadd, 1) := by decide +kernel
theorem dL_cell_17 : decode cL_cell 17 = .ok (.imul, 1) := by decide +kernel
theorem dL_cell_18 : decode cL_cell 18 = .ok (.ireturn, 1) := by decide +kernel
def t_L_cell_18 : am_T := tb_iret
def t_L_cell_12 : am_T := tb_const (40503) <|
  tb_iload 1 <|
  tb_const 3 <|
  tb_bin (fun x y => x + y) <|
  tb_bin (fun x y => x * y) <|
  t_L_cell_18
def t_L_cell_0 : am_T := tb_iload 1 <|
  tb_aload 0 <|
  tb_alen <|
  tb_ic (fun x y => y ≤ x) (t_L_cell_12) <|
  tb_aload 0 <|
  tb_iload 1 <|
  tb_iald <|
  t_L_cell_18
def h_L_cell : am_Hd := fun h => if h = 0 then t_L_cell_0 else tb_bad
theorem h_L_cell_0 : h_L_cell 0 = t_L_cell_0 := rfl
def rm_L_cell : Room := { frames := 0, cells := 0, slots := 0, locals := 0 }
def sp_L_cell : am_sp := fun as M Q => as.length ≤ 2 ∧ am_OK h_L_cell Q 0 (am_in 2 as) M
theorem s_L_cell_18 {G : am_G} {bc bs : Nat} (X : am_Cx G cL_cell RL "cell" rm_L_cell (some .int) 2 bc bs true) : am_S G 18 (t_L_cell_18) := by
  unfold t_L_cell_18
  exact as_iret (pc := 18) X ⟨rfl, rfl⟩ rfl dL_cell_18
theorem s_L_cell_12 {G : am_G} {bc bs : Nat} (X : am_Cx G cL_cell RL "cell" rm_L_cell (some .int) 2 bc bs true) : am_S G 12 (t_L_cell_12) := by
  unfold t_L_cell_12
  refine as_ldc (pc := 12) X dL_cell_12 aw_400 ?_
  refine as_iload_n (pc := 14) X dL_cell_14 rfl ?_
  refine as_iconst (pc := 15) X dL_cell_15 (by decide) ?_
  refine as_iadd (pc := 16) X dL_cell_16 ?_
  refine as_imul (pc := 17) X dL_cell_17 ?_
  exact s_L_cell_18 X
theorem s_L_cell_0 {G : am_G} {bc bs : Nat} (X : am_Cx G cL_cell RL "cell" rm_L_cell (some .int) 2 bc bs true) : am_S G 0 (t_L_cell_0) := by
  unfold t_L_cell_0
  refine as_iload_n (pc := 0) X dL_cell_0 rfl ?_
  refine as_aload_n (pc := 1) X dL_cell_1 rfl ?_
  refine as_alen (pc := 2) X dL_cell_2 ?_
  refine as_ic_ge (pc := 3) X 12 dL_cell_3 (by decide) (s_L_cell_12 X) ?_
  refine as_aload_n (pc := 6) X dL_cell_6 rfl ?_
  refine as_iload_n (pc := 7) X dL_cell_7 rfl ?_
  refine as_iald (pc := 8) X dL_cell_8 ?_
  exact as_goto (pc := 9) X 18 dL_cell_9 (by decide) (s_L_cell_18 X)
theorem s_L_cell {G : am_G} {bc bs : Nat} (X : am_Cx G cL_cell RL "cell" rm_L_cell (some .int) 2 bc bs true) (h : Nat) : am_S G h (h_L_cell h) := by
  unfold h_L_cell
  split
  · next e => rw [e]; exact s_L_cell_0 X
  exact as_bad
theorem ct_L_cell : am_Ct yL_cell cL_cell 2 (some .int) rm_L_cell sp_L_cell := am_met (own := RL) (nm := "cell") (by decide) rfl rfl (Or.inr (Or.inl rfl)) (fun _ _ => h_L_cell) (fun _ _ _ X => s_L_cell X) (fun _ _ _ _ h => h)
-- L_low
theorem dL_low_0 : decode cL_low 0 = .ok (.iload_n 0, 1) := by decide +kernel
theorem dL_low_1 : decode cL_low 1 = .ok (.ldc 8, 2) := by decide +kernel
theorem dL_low_3 : decode cL_low 3 = .ok (.iand, 1) := by decide +kernel
theorem dL_low_4 : decode cL_low 4 = .ok (.iload_n 1, 1) := by decide +kernel
theorem dL_low_5 : decode cL_low 5 = .ok (.irem, 1) := by decide +kernel
theorem dL_low_6 : decode cL_low 6 = .ok (.ireturn, 1) := by decide +kernel
def t_L_low_0 : am_T := tb_iload 0 <|
  tb_const (2147483647) <|
  tb_bin (fun x y => x &&& y) <|
  tb_iload 1 <|
  tb_irem <|
  tb_iret
def h_L_low : am_Hd := fun h => if h = 0 then t_L_low_0 else tb_bad
theorem h_L_low_0 : h_L_low 0 = t_L_low_0 := rfl
def rm_L_low : Room := { frames := 0, cells := 0, slots := 0, locals := 0 }
def sp_L_low : am_sp := fun as M Q => as.length ≤ 2 ∧ am_OK h_L_low Q 0 (am_in 2 as) M
theorem s_L_low_0 {G : am_G} {bc bs : Nat} (X : am_Cx G cL_low RL "low" rm_L_low (some .int) 2 bc bs true) : am_S G 0 (t_L_low_0) := by
  unfold t_L_low_0
  refine as_iload_n (pc := 0) X dL_low_0 rfl ?_
  refine as_ldc (pc := 1) X dL_low_1 aw_404 ?_
  refine as_iand (pc := 3) X dL_low_3 ?_
  refine as_iload_n (pc := 4) X dL_low_4 rfl ?_
  refine as_irem (pc := 5) X dL_low_5 ?_
  exact as_iret (pc := 6) X ⟨rfl, rfl⟩ rfl dL_low_6
theorem s_L_low {G : am_G} {bc bs : Nat} (X : am_Cx G cL_low RL "low" rm_L_low (some .int) 2 bc bs true) (h : Nat) : am_S G h (h_L_low h) := by
  unfold h_L_low
  split
  · next e => rw [e]; exact s_L_low_0 X
  exact as_bad
theorem ct_L_low : am_Ct yL_low cL_low 2 (some .int) rm_L_low sp_L_low := am_met (own := RL) (nm := "low") (by decide) rfl rfl (Or.inr (Or.inl rfl)) (fun _ _ => h_L_low) (fun _ _ _ X => s_L_low X) (fun _ _ _ _ h => h)
-- L_has
theorem dL_has_0 : decode cL_has 0 = .ok (.bipush (-4), 2) := by decide +kernel
theorem dL_has_2 : decode cL_has 2 = .ok (.istore 4, 2) := by decide +kernel
theorem dL_has_4 : decode cL_has 4 = .ok (.iconst 0, 1) := by decide +kernel
theorem dL_has_5 : decode cL_has 5 = .ok (.istore 5, 2) := by decide +kernel
theorem dL_has_7 : decode cL_has 7 = .ok (.iload 5, 2) := by decide +kernel
theorem dL_has_9 : decode cL_has 9 = .ok (.bipush 12, 2) := by decide +kernel
theorem dL_has_11 : decode cL_has 11 = .ok (.if_icmp .ge 30, 3) := by decide +kernel
theorem dL_has_14 : decode cL_has 14 = .ok (.aload_n 0, 1) := by decide +kernel
theorem dL_has_15 : decode cL_has 15 = .ok (.aload_n 1, 1) := by decide +kernel
theorem dL_has_16 : decode cL_has 16 = .ok (.iload 5, 2) := by decide +kernel
theorem dL_has_18 : decode cL_has 18 = .ok (.iload_n 3, 1) := by decide +kernel
theorem dL_has_19 : decode cL_has 19 = .ok (.invokestatic 9, 3) := by decide +kernel
theorem dL_has_22 : decode cL_has 22 = .ok (.iload_n 2, 1) := by decide +kernel
theorem dL_has_23 : decode cL_has 23 = .ok (.if_icmp .ne 8, 3) := by decide +kernel
theorem dL_has_26 : decode cL_has 26 = .ok (.iload 5, 2) := by decide +kernel
theorem dL_has_28 : decode cL_has 28 = .ok (.goto 5, 3) := by decide +kernel
theorem dL_has_31 : decode cL_has 31 = .ok (.iload 4, 2) := by decide +kernel
theorem dL_has_33 : decode cL_has 33 = .ok (.istore 4, 2) := by decide +kernel
theorem dL_has_35 : decode cL_has 35 = .ok (.iinc 5 1, 3) := by decide +kernel
theorem dL_has_38 : decode cL_has 38 = .ok (.goto (-31), 3) := by decide +kernel
theorem dL_has_41 : decode cL_has 41 = .ok (.iload 4, 2) := by decide +kernel
theorem dL_has_43 : decode cL_has 43 = .ok (.ireturn, 1) := by decide +kernel
def t_L_has_41 : am_T := tb_iload 4 <|
  tb_iret
def t_L_has_33 : am_T := tb_istore 4 <|
  tb_iinc 5 1 <|
  tb_head 7
def t_L_has_31 : am_T := tb_iload 4 <|
  t_L_has_33
def t_L_has_7 : am_T := tb_iload 5 <|
  tb_const 12 <|
  tb_ic (fun x y => y ≤ x) (t_L_has_41) <|
  tb_aload 0 <|
  tb_aload 1 <|
  tb_iload 5 <|
  tb_iload 3 <|
  tb_callS sp_L_name 4 <|
  tb_iload 2 <|
  tb_ic (fun x y => x ≠ y) (t_L_has_31) <|
  tb_iload 5 <|
  t_L_has_33
def t_L_has_0 : am_T := tb_const (-4) <|
  tb_istore 4 <|
  tb_const 0 <|
  tb_istore 5 <|
  tb_head 7
def h_L_has : am_Hd := fun h => if h = 0 then t_L_has_0 else if h = 7 then t_L_has_7 else tb_bad
theorem h_L_has_0 : h_L_has 0 = t_L_has_0 := rfl
theorem h_L_has_7 : h_L_has 7 = t_L_has_7 := rfl
def rm_L_has : Room := { frames := 1, cells := 0, slots := 0, locals := 24 }
def sp_L_has : am_sp := fun as M Q => as.length ≤ 6 ∧ am_OK h_L_has Q 0 (am_in 6 as) M
theorem s_L_has_41 {G : am_G} {bc bs : Nat} (X : am_Cx G cL_has RL "has" rm_L_has (some .int) 6 bc bs true) : am_S G 41 (t_L_has_41) := by
  unfold t_L_has_41
  refine as_iload (pc := 41) X dL_has_41 ?_
  exact as_iret (pc := 43) X ⟨rfl, rfl⟩ rfl dL_has_43
theorem s_L_has_33 {G : am_G} {bc bs : Nat} (X : am_Cx G cL_has RL "has" rm_L_has (some .int) 6 bc bs true) : am_S G 33 (t_L_has_33) := by
  unfold t_L_has_33
  refine as_istore (pc := 33) X dL_has_33 ?_ (by decide)
  refine as_iinc (pc := 35) X dL_has_35 (by decide) (by decide) ?_
  exact as_goto (pc := 38) X 7 dL_has_38 (by decide) (as_head)
theorem s_L_has_31 {G : am_G} {bc bs : Nat} (X : am_Cx G cL_has RL "has" rm_L_has (some .int) 6 bc bs true) : am_S G 31 (t_L_has_31) := by
  unfold t_L_has_31
  refine as_iload (pc := 31) X dL_has_31 ?_
  exact s_L_has_33 X
theorem s_L_has_7 {G : am_G} {bc bs : Nat} (X : am_Cx G cL_has RL "has" rm_L_has (some .int) 6 bc bs true) : am_S G 7 (t_L_has_7) := by
  unfold t_L_has_7
  refine as_iload (pc := 7) X dL_has_7 ?_
  refine as_bipush (pc := 9) X dL_has_9 (by decide) ?_
  refine as_ic_ge (pc := 11) X 41 dL_has_11 (by decide) (s_L_has_41 X) ?_
  refine as_aload_n (pc := 14) X dL_has_14 rfl ?_
  refine as_aload_n (pc := 15) X dL_has_15 rfl ?_
  refine as_iload (pc := 16) X dL_has_16 ?_
  refine as_iload_n (pc := 18) X dL_has_18 rfl ?_
  refine as_callS (np := 4) (ix := 9) (pc := 19) X ct_L_name ⟨rfl, rfl⟩ aw_412 aw_413 aw_414 aw_16 (by decide +kernel) (by decide) dL_has_19 ?_
  refine as_iload_n (pc := 22) X dL_has_22 rfl ?_
  refine as_ic_ne (pc := 23) X 31 dL_has_23 (by decide) (s_L_has_31 X) ?_
  refine as_iload (pc := 26) X dL_has_26 ?_
  exact as_goto (pc := 28) X 33 dL_has_28 (by decide) (s_L_has_33 X)
theorem s_L_has_0 {G : am_G} {bc bs : Nat} (X : am_Cx G cL_has RL "has" rm_L_has (some .int) 6 bc bs true) : am_S G 0 (t_L_has_0) := by
  unfold t_L_has_0
  refine as_bipush (pc := 0) X dL_has_0 (by decide) ?_
  refine as_istore (pc := 2) X dL_has_2 ?_ (by decide)
  refine as_iconst (pc := 4) X dL_has_4 (by decide) ?_
  refine as_istore (pc := 5) X dL_has_5 ?_ (by decide)
  exact as_head
theorem s_L_has {G : am_G} {bc bs : Nat} (X : am_Cx G cL_has RL "has" rm_L_has (some .int) 6 bc bs true) (h : Nat) : am_S G h (h_L_has h) := by
  unfold h_L_has
  split
  · next e => rw [e]; exact s_L_has_0 X
  split
  · next e => rw [e]; exact s_L_has_7 X
  exact as_bad
theorem ct_L_has : am_Ct yL_has cL_has 6 (some .int) rm_L_has sp_L_has := am_met (own := RL) (nm := "has") (by decide) rfl rfl (Or.inr (Or.inl rfl)) (fun _ _ => h_L_has) (fun _ _ _ X => s_L_has X) (fun _ _ _ _ h => h)
-- X4_isPerson
theorem dX4_isPerson_0 : decode cX4_isPerson 0 = .ok (.iload_n 0, 1) := by decide +kernel
theorem dX4_isPerson_1 : decode cX4_isPerson 1 = .ok (.ifCond .lt 13, 3) := by decide +kernel
theorem dX4_isPerson_4 : decode cX4_isPerson 4 = .ok (.iload_n 0, 1) := by decide +kernel
theorem dX4_isPerson_5 : decode cX4_isPerson 5 = .ok (.bipush 12, 2) := by decide +kernel
theorem dX4_isPerson_7 : decode cX4_isPerson 7 = .ok (.if_icmp .ge 7, 3) := by decide +kernel
theorem dX4_isPerson_10 : decode cX4_isPerson 10 = .ok (.iconst 1, 1) := by decide +kernel
theorem dX4_isPerson_11 : decode cX4_isPerson 11 = .ok (.goto 4, 3) := by decide +kernel
theorem dX4_isPerson_14 : decode cX4_isPerson 14 = .ok (.iconst 0, 1) := by decide +kernel
theorem dX4_isPerson_15 : decode cX4_isPerson 15 = .ok (.ireturn, 1) := by decide +kernel
def t_X4_isPerson_15 : am_T := tb_zret
def t_X4_isPerson_14 : am_T := tb_const 0 <|
  t_X4_isPerson_15
def t_X4_isPerson_0 : am_T := tb_iload 0 <|
  tb_if (fun x => x < 0) (t_X4_isPerson_14) <|
  tb_iload 0 <|
  tb_const 12 <|
  tb_ic (fun x y => y ≤ x) (t_X4_isPerson_14) <|
  tb_const 1 <|
  t_X4_isPerson_15
def h_X4_isPerson : am_Hd := fun h => if h = 0 then t_X4_isPerson_0 else tb_bad
theorem h_X4_isPerson_0 : h_X4_isPerson 0 = t_X4_isPerson_0 := rfl
def rm_X4_isPerson : Room := { frames := 0, cells := 0, slots := 0, locals := 0 }
def sp_X4_isPerson : am_sp := fun as M Q => as.length ≤ 1 ∧ am_OK h_X4_isPerson Q 0 (am_in 1 as) M
theorem s_X4_isPerson_15 {G : am_G} {bc bs : Nat} (X : am_Cx G cX4_isPerson RX4 "isPerson" rm_X4_isPerson (some .boolean) 1 bc bs true) : am_S G 15 (t_X4_isPerson_15) := by
  unfold t_X4_isPerson_15
  exact as_zret (pc := 15) X ⟨rfl, rfl⟩ rfl dX4_isPerson_15
theorem s_X4_isPerson_14 {G : am_G} {bc bs : Nat} (X : am_Cx G cX4_isPerson RX4 "isPerson" rm_X4_isPerson (some .boolean) 1 bc bs true) : am_S G 14 (t_X4_isPerson_14) := by
  unfold t_X4_isPerson_14
  refine as_iconst (pc := 14) X dX4_isPerson_14 (by decide) ?_
  exact s_X4_isPerson_15 X
theorem s_X4_isPerson_0 {G : am_G} {bc bs : Nat} (X : am_Cx G cX4_isPerson RX4 "isPerson" rm_X4_isPerson (some .boolean) 1 bc bs true) : am_S G 0 (t_X4_isPerson_0) := by
  unfold t_X4_isPerson_0
  refine as_iload_n (pc := 0) X dX4_isPerson_0 rfl ?_
  refine as_if_lt (pc := 1) X 14 dX4_isPerson_1 (by decide) (s_X4_isPerson_14 X) ?_
  refine as_iload_n (pc := 4) X dX4_isPerson_4 rfl ?_
  refine as_bipush (pc := 5) X dX4_isPerson_5 (by decide) ?_
  refine as_ic_ge (pc := 7) X 14 dX4_isPerson_7 (by decide) (s_X4_isPerson_14 X) ?_
  refine as_iconst (pc := 10) X dX4_isPerson_10 (by decide) ?_
  exact as_goto (pc := 11) X 15 dX4_isPerson_11 (by decide) (s_X4_isPerson_15 X)
theorem s_X4_isPerson {G : am_G} {bc bs : Nat} (X : am_Cx G cX4_isPerson RX4 "isPerson" rm_X4_isPerson (some .boolean) 1 bc bs true) (h : Nat) : am_S G h (h_X4_isPerson h) := by
  unfold h_X4_isPerson
  split
  · next e => rw [e]; exact s_X4_isPerson_0 X
  exact as_bad
theorem ct_X4_isPerson : am_Ct yX4_isPerson cX4_isPerson 1 (some .boolean) rm_X4_isPerson sp_X4_isPerson := am_met (own := RX4) (nm := "isPerson") (by decide) rfl rfl (Or.inr (Or.inr (Or.inl rfl))) (fun _ _ => h_X4_isPerson) (fun _ _ _ X => s_X4_isPerson X) (fun _ _ _ _ h => h)
-- X4_isName
theorem dX4_isName_0 : decode cX4_isName 0 = .ok (.iload_n 0, 1) := by decide +kernel
theorem dX4_isName_1 : decode cX4_isName 1 = .ok (.ifCond .lt 13, 3) := by decide +kernel
theorem dX4_isName_4 : decode cX4_isName 4 = .ok (.iload_n 0, 1) := by decide +kernel
theorem dX4_isName_5 : decode cX4_isName 5 = .ok (.bipush 16, 2) := by decide +kernel
theorem dX4_isName_7 : decode cX4_isName 7 = .ok (.if_icmp .ge 7, 3) := by decide +kernel
theorem dX4_isName_10 : decode cX4_isName 10 = .ok (.iconst 1, 1) := by decide +kernel
theorem dX4_isName_11 : decode cX4_isName 11 = .ok (.goto 4, 3) := by decide +kernel
theorem dX4_isName_14 : decode cX4_isName 14 = .ok (.iconst 0, 1) := by decide +kernel
theorem dX4_isName_15 : decode cX4_isName 15 = .ok (.ireturn, 1) := by decide +kernel
def t_X4_isName_15 : am_T := tb_zret
def t_X4_isName_14 : am_T := tb_const 0 <|
  t_X4_isName_15
def t_X4_isName_0 : am_T := tb_iload 0 <|
  tb_if (fun x => x < 0) (t_X4_isName_14) <|
  tb_iload 0 <|
  tb_const 16 <|
  tb_ic (fun x y => y ≤ x) (t_X4_isName_14) <|
  tb_const 1 <|
  t_X4_isName_15
def h_X4_isName : am_Hd := fun h => if h = 0 then t_X4_isName_0 else tb_bad
theorem h_X4_isName_0 : h_X4_isName 0 = t_X4_isName_0 := rfl
def rm_X4_isName : Room := { frames := 0, cells := 0, slots := 0, locals := 0 }
def sp_X4_isName : am_sp := fun as M Q => as.length ≤ 1 ∧ am_OK h_X4_isName Q 0 (am_in 1 as) M
theorem s_X4_isName_15 {G : am_G} {bc bs : Nat} (X : am_Cx G cX4_isName RX4 "isName" rm_X4_isName (some .boolean) 1 bc bs true) : am_S G 15 (t_X4_isName_15) := by
  unfold t_X4_isName_15
  exact as_zret (pc := 15) X ⟨rfl, rfl⟩ rfl dX4_isName_15
theorem s_X4_isName_14 {G : am_G} {bc bs : Nat} (X : am_Cx G cX4_isName RX4 "isName" rm_X4_isName (some .boolean) 1 bc bs true) : am_S G 14 (t_X4_isName_14) := by
  unfold t_X4_isName_14
  refine as_iconst (pc := 14) X dX4_isName_14 (by decide) ?_
  exact s_X4_isName_15 X
theorem s_X4_isName_0 {G : am_G} {bc bs : Nat} (X : am_Cx G cX4_isName RX4 "isName" rm_X4_isName (some .boolean) 1 bc bs true) : am_S G 0 (t_X4_isName_0) := by
  unfold t_X4_isName_0
  refine as_iload_n (pc := 0) X dX4_isName_0 rfl ?_
  refine as_if_lt (pc := 1) X 14 dX4_isName_1 (by decide) (s_X4_isName_14 X) ?_
  refine as_iload_n (pc := 4) X dX4_isName_4 rfl ?_
  refine as_bipush (pc := 5) X dX4_isName_5 (by decide) ?_
  refine as_ic_ge (pc := 7) X 14 dX4_isName_7 (by decide) (s_X4_isName_14 X) ?_
  refine as_iconst (pc := 10) X dX4_isName_10 (by decide) ?_
  exact as_goto (pc := 11) X 15 dX4_isName_11 (by decide) (s_X4_isName_15 X)
theorem s_X4_isName {G : am_G} {bc bs : Nat} (X : am_Cx G cX4_isName RX4 "isName" rm_X4_isName (some .boolean) 1 bc bs true) (h : Nat) : am_S G h (h_X4_isName h) := by
  unfold h_X4_isName
  split
  · next e => rw [e]; exact s_X4_isName_0 X
  exact as_bad
theorem ct_X4_isName : am_Ct yX4_isName cX4_isName 1 (some .boolean) rm_X4_isName sp_X4_isName := am_met (own := RX4) (nm := "isName") (by decide) rfl rfl (Or.inr (Or.inr (Or.inl rfl))) (fun _ _ => h_X4_isName) (fun _ _ _ X => s_X4_isName X) (fun _ _ _ _ h => h)
-- X4_isTime
theorem dX4_isTime_0 : decode cX4_isTime 0 = .ok (.iload_n 0, 1) := by decide +kernel
theorem dX4_isTime_1 : decode cX4_isTime 1 = .ok (.ifCond .lt 13, 3) := by decide +kernel
theorem dX4_isTime_4 : decode cX4_isTime 4 = .ok (.iload_n 0, 1) := by decide +kernel
theorem dX4_isTime_5 : decode cX4_isTime 5 = .ok (.ldc 145, 2) := by decide +kernel
theorem dX4_isTime_7 : decode cX4_isTime 7 = .ok (.if_icmp .gt 7, 3) := by decide +kernel
theorem dX4_isTime_10 : decode cX4_isTime 10 = .ok (.iconst 1, 1) := by decide +kernel
theorem dX4_isTime_11 : decode cX4_isTime 11 = .ok (.goto 4, 3) := by decide +kernel
theorem dX4_isTime_14 : decode cX4_isTime 14 = .ok (.iconst 0, 1) := by decide +kernel
theorem dX4_isTime_15 : decode cX4_isTime 15 = .ok (.ireturn, 1) := by decide +kernel
def t_X4_isTime_15 : am_T := tb_zret
def t_X4_isTime_14 : am_T := tb_const 0 <|
  t_X4_isTime_15
def t_X4_isTime_0 : am_T := tb_iload 0 <|
  tb_if (fun x => x < 0) (t_X4_isTime_14) <|
  tb_iload 0 <|
  tb_const (100000) <|
  tb_ic (fun x y => y < x) (t_X4_isTime_14) <|
  tb_const 1 <|
  t_X4_isTime_15
def h_X4_isTime : am_Hd := fun h => if h = 0 then t_X4_isTime_0 else tb_bad
theorem h_X4_isTime_0 : h_X4_isTime 0 = t_X4_isTime_0 := rfl
def rm_X4_isTime : Room := { frames := 0, cells := 0, slots := 0, locals := 0 }
def sp_X4_isTime : am_sp := fun as M Q => as.length ≤ 1 ∧ am_OK h_X4_isTime Q 0 (am_in 1 as) M
theorem s_X4_isTime_15 {G : am_G} {bc bs : Nat} (X : am_Cx G cX4_isTime RX4 "isTime" rm_X4_isTime (some .boolean) 1 bc bs true) : am_S G 15 (t_X4_isTime_15) := by
  unfold t_X4_isTime_15
  exact as_zret (pc := 15) X ⟨rfl, rfl⟩ rfl dX4_isTime_15
theorem s_X4_isTime_14 {G : am_G} {bc bs : Nat} (X : am_Cx G cX4_isTime RX4 "isTime" rm_X4_isTime (some .boolean) 1 bc bs true) : am_S G 14 (t_X4_isTime_14) := by
  unfold t_X4_isTime_14
  refine as_iconst (pc := 14) X dX4_isTime_14 (by decide) ?_
  exact s_X4_isTime_15 X
theorem s_X4_isTime_0 {G : am_G} {bc bs : Nat} (X : am_Cx G cX4_isTime RX4 "isTime" rm_X4_isTime (some .boolean) 1 bc bs true) : am_S G 0 (t_X4_isTime_0) := by
  unfold t_X4_isTime_0
  refine as_iload_n (pc := 0) X dX4_isTime_0 rfl ?_
  refine as_if_lt (pc := 1) X 14 dX4_isTime_1 (by decide) (s_X4_isTime_14 X) ?_
  refine as_iload_n (pc := 4) X dX4_isTime_4 rfl ?_
  refine as_ldc (pc := 5) X dX4_isTime_5 aw_256 ?_
  refine as_ic_gt (pc := 7) X 14 dX4_isTime_7 (by decide) (s_X4_isTime_14 X) ?_
  refine as_iconst (pc := 10) X dX4_isTime_10 (by decide) ?_
  exact as_goto (pc := 11) X 15 dX4_isTime_11 (by decide) (s_X4_isTime_15 X)
theorem s_X4_isTime {G : am_G} {bc bs : Nat} (X : am_Cx G cX4_isTime RX4 "isTime" rm_X4_isTime (some .boolean) 1 bc bs true) (h : Nat) : am_S G h (h_X4_isTime h) := by
  unfold h_X4_isTime
  split
  · next e => rw [e]; exact s_X4_isTime_0 X
  exact as_bad
theorem ct_X4_isTime : am_Ct yX4_isTime cX4_isTime 1 (some .boolean) rm_X4_isTime sp_X4_isTime := am_met (own := RX4) (nm := "isTime") (by decide) rfl rfl (Or.inr (Or.inr (Or.inl rfl))) (fun _ _ => h_X4_isTime) (fun _ _ _ X => s_X4_isTime X) (fun _ _ _ _ h => h)
-- X1_nameAt
theorem dX1_nameAt_0 : decode cX1_nameAt 0 = .ok (.aload_n 0, 1) := by decide +kernel
theorem dX1_nameAt_1 : decode cX1_nameAt 1 = .ok (.getfield 9, 3) := by decide +kernel
theorem dX1_nameAt_4 : decode cX1_nameAt 4 = .ok (.iconst 1, 1) := by decide +kernel
theorem dX1_nameAt_5 : decode cX1_nameAt 5 = .ok (.isub, 1) := by decide +kernel
theorem dX1_nameAt_6 : decode cX1_nameAt 6 = .ok (.istore_n 3, 1) := by decide +kernel
theorem dX1_nameAt_7 : decode cX1_nameAt 7 = .ok (.iload_n 3, 1) := by decide +kernel
theorem dX1_nameAt_8 : decode cX1_nameAt 8 = .ok (.ifCond .lt 36, 3) := by decide +kernel
theorem dX1_nameAt_11 : decode cX1_nameAt 11 = .ok (.aload_n 0, 1) := by decide +kernel
theorem dX1_nameAt_12 : decode cX1_nameAt 12 = .ok (.getfield 15, 3) := by decide +kernel
theorem dX1_nameAt_15 : decode cX1_nameAt 15 = .ok (.iload_n 3, 1) := by decide +kernel
theorem dX1_nameAt_16 : decode cX1_nameAt 16 = .ok (.iaload, 1) := by decide +kernel
theorem dX1_nameAt_17 : decode cX1_nameAt 17 = .ok (.iload_n 1, 1) := by decide +kernel
theorem dX1_nameAt_18 : decode cX1_nameAt 18 = .ok (.if_icmp .ne 20, 3) := by decide +kernel
theorem dX1_nameAt_21 : decode cX1_nameAt 21 = .ok (.aload_n 0, 1) := by decide +kernel
theorem dX1_nameAt_22 : decode cX1_nameAt 22 = .ok (.getfield 22, 3) := by decide +kernel
theorem dX1_nameAt_25 : decode cX1_nameAt 25 = .ok (.iload_n 3, 1) := by decide +kernel
theorem dX1_nameAt_26 : decode cX1_nameAt 26 = .ok (.iaload, 1) := by decide +kernel
theorem dX1_nameAt_27 : decode cX1_nameAt 27 = .ok (.iload_n 2, 1) := by decide +kernel
theorem dX1_nameAt_28 : decode cX1_nameAt 28 = .ok (.if_icmp .gt 10, 3) := by decide +kernel
theorem dX1_nameAt_31 : decode cX1_nameAt 31 = .ok (.aload_n 0, 1) := by decide +kernel
theorem dX1_nameAt_32 : decode cX1_nameAt 32 = .ok (.getfield 19, 3) := by decide +kernel
theorem dX1_nameAt_35 : decode cX1_nameAt 35 = .ok (.iload_n 3, 1) := by decide +kernel
theorem dX1_nameAt_36 : decode cX1_nameAt 36 = .ok (.iaload, 1) := by decide +kernel
theorem dX1_nameAt_37 : decode cX1_nameAt 37 = .ok (.ireturn, 1) := by decide +kernel
theorem dX1_nameAt_38 : decode cX1_nameAt 38 = .ok (.iinc 3 (-1), 3) := by decide +kernel
theorem dX1_nameAt_41 : decode cX1_nameAt 41 = .ok (.goto (-34), 3) := by decide +kernel
theorem dX1_nameAt_44 : decode cX1_nameAt 44 = .ok (.iconst (-1), 1) := by decide +kernel
theorem dX1_nameAt_45 : decode cX1_nameAt 45 = .ok (.ireturn, 1) := by decide +kernel
def t_X1_nameAt_44 : am_T := tb_const (-1) <|
  tb_iret
def t_X1_nameAt_38 : am_T := tb_iinc 3 (-1) <|
  tb_head 7
def t_X1_nameAt_7 : am_T := tb_iload 3 <|
  tb_if (fun x => x < 0) (t_X1_nameAt_44) <|
  tb_aload 0 <|
  tb_getR 1 1 <|
  tb_iload 3 <|
  tb_iald <|
  tb_iload 1 <|
  tb_ic (fun x y => x ≠ y) (t_X1_nameAt_38) <|
  tb_aload 0 <|
  tb_getR 1 3 <|
  tb_iload 3 <|
  tb_iald <|
  tb_iload 2 <|
  tb_ic (fun x y => y < x) (t_X1_nameAt_38) <|
  tb_aload 0 <|
  tb_getR 1 2 <|
  tb_iload 3 <|
  tb_iald <|
  tb_iret
def t_X1_nameAt_0 : am_T := tb_aload 0 <|
  tb_getI 1 0 <|
  tb_const 1 <|
  tb_bin (fun x y => x - y) <|
  tb_istore 3 <|
  tb_head 7
def h_X1_nameAt : am_Hd := fun h => if h = 0 then t_X1_nameAt_0 else if h = 7 then t_X1_nameAt_7 else tb_bad
theorem h_X1_nameAt_0 : h_X1_nameAt 0 = t_X1_nameAt_0 := rfl
theorem h_X1_nameAt_7 : h_X1_nameAt 7 = t_X1_nameAt_7 := rfl
def rm_X1_nameAt : Room := { frames := 0, cells := 0, slots := 0, locals := 0 }
def sp_X1_nameAt : am_sp := fun as M Q => as.length ≤ 4 ∧ am_OK h_X1_nameAt Q 0 (am_in 4 as) M
theorem s_X1_nameAt_44 {G : am_G} {bc bs : Nat} (X : am_Cx G cX1_nameAt RX1 "nameAt" rm_X1_nameAt (some .int) 4 bc bs true) : am_S G 44 (t_X1_nameAt_44) := by
  unfold t_X1_nameAt_44
  refine as_iconst (pc := 44) X dX1_nameAt_44 (by decide) ?_
  exact as_iret (pc := 45) X ⟨rfl, rfl⟩ rfl dX1_nameAt_45
theorem s_X1_nameAt_38 {G : am_G} {bc bs : Nat} (X : am_Cx G cX1_nameAt RX1 "nameAt" rm_X1_nameAt (some .int) 4 bc bs true) : am_S G 38 (t_X1_nameAt_38) := by
  unfold t_X1_nameAt_38
  refine as_iinc (pc := 38) X dX1_nameAt_38 (by decide) (by decide) ?_
  exact as_goto (pc := 41) X 7 dX1_nameAt_41 (by decide) (as_head)
theorem s_X1_nameAt_7 {G : am_G} {bc bs : Nat} (X : am_Cx G cX1_nameAt RX1 "nameAt" rm_X1_nameAt (some .int) 4 bc bs true) : am_S G 7 (t_X1_nameAt_7) := by
  unfold t_X1_nameAt_7
  refine as_iload_n (pc := 7) X dX1_nameAt_7 rfl ?_
  refine as_if_lt (pc := 8) X 44 dX1_nameAt_8 (by decide) (s_X1_nameAt_44 X) ?_
  refine as_aload_n (pc := 11) X dX1_nameAt_11 rfl ?_
  refine as_getR (ci := 1) (j := 1) (pc := 12) X (Cn := RX1) (Tf := TX1) (N := 14) rfl rfl (by decide) iw_X1 aw_52 rfl dX1_nameAt_12 ?_
  refine as_iload_n (pc := 15) X dX1_nameAt_15 rfl ?_
  refine as_iald (pc := 16) X dX1_nameAt_16 ?_
  refine as_iload_n (pc := 17) X dX1_nameAt_17 rfl ?_
  refine as_ic_ne (pc := 18) X 38 dX1_nameAt_18 (by decide) (s_X1_nameAt_38 X) ?_
  refine as_aload_n (pc := 21) X dX1_nameAt_21 rfl ?_
  refine as_getR (ci := 1) (j := 3) (pc := 22) X (Cn := RX1) (Tf := TX1) (N := 14) rfl rfl (by decide) iw_X1 aw_54 rfl dX1_nameAt_22 ?_
  refine as_iload_n (pc := 25) X dX1_nameAt_25 rfl ?_
  refine as_iald (pc := 26) X dX1_nameAt_26 ?_
  refine as_iload_n (pc := 27) X dX1_nameAt_27 rfl ?_
  refine as_ic_gt (pc := 28) X 38 dX1_nameAt_28 (by decide) (s_X1_nameAt_38 X) ?_
  refine as_aload_n (pc := 31) X dX1_nameAt_31 rfl ?_
  refine as_getR (ci := 1) (j := 2) (pc := 32) X (Cn := RX1) (Tf := TX1) (N := 14) rfl rfl (by decide) iw_X1 aw_53 rfl dX1_nameAt_32 ?_
  refine as_iload_n (pc := 35) X dX1_nameAt_35 rfl ?_
  refine as_iald (pc := 36) X dX1_nameAt_36 ?_
  exact as_iret (pc := 37) X ⟨rfl, rfl⟩ rfl dX1_nameAt_37
theorem s_X1_nameAt_0 {G : am_G} {bc bs : Nat} (X : am_Cx G cX1_nameAt RX1 "nameAt" rm_X1_nameAt (some .int) 4 bc bs true) : am_S G 0 (t_X1_nameAt_0) := by
  unfold t_X1_nameAt_0
  refine as_aload_n (pc := 0) X dX1_nameAt_0 rfl ?_
  refine as_getI (ci := 1) (j := 0) (pc := 1) X (Cn := RX1) (Tf := TX1) (N := 14) rfl rfl (by decide) iw_X1 aw_50 rfl dX1_nameAt_1 ?_
  refine as_iconst (pc := 4) X dX1_nameAt_4 (by decide) ?_
  refine as_isub (pc := 5) X dX1_nameAt_5 ?_
  refine as_istore_n (pc := 6) X dX1_nameAt_6 rfl ?_ (by decide)
  exact as_head
theorem s_X1_nameAt {G : am_G} {bc bs : Nat} (X : am_Cx G cX1_nameAt RX1 "nameAt" rm_X1_nameAt (some .int) 4 bc bs true) (h : Nat) : am_S G h (h_X1_nameAt h) := by
  unfold h_X1_nameAt
  split
  · next e => rw [e]; exact s_X1_nameAt_0 X
  split
  · next e => rw [e]; exact s_X1_nameAt_7 X
  exact as_bad
theorem ct_X1_nameAt : am_Ct yX1_nameAt cX1_nameAt 4 (some .int) rm_X1_nameAt sp_X1_nameAt := am_met (own := RX1) (nm := "nameAt") (by decide) rfl rfl (Or.inr (Or.inl rfl)) (fun _ _ => h_X1_nameAt) (fun _ _ _ X => s_X1_nameAt X) (fun _ _ _ _ h => h)
-- X1_holderAt
theorem dX1_holderAt_0 : decode cX1_holderAt 0 = .ok (.iconst 0, 1) := by decide +kernel
theorem dX1_holderAt_1 : decode cX1_holderAt 1 = .ok (.istore_n 3, 1) := by decide +kernel
theorem dX1_holderAt_2 : decode cX1_holderAt 2 = .ok (.iload_n 3, 1) := by decide +kernel
theorem dX1_holderAt_3 : decode cX1_holderAt 3 = .ok (.bipush 12, 2) := by decide +kernel
theorem dX1_holderAt_5 : decode cX1_holderAt 5 = .ok (.if_icmp .ge 21, 3) := by decide +kernel
theorem dX1_holderAt_8 : decode cX1_holderAt 8 = .ok (.aload_n 0, 1) := by decide +kernel
theorem dX1_holderAt_9 : decode cX1_holderAt 9 = .ok (.iload_n 3, 1) := by decide +kernel
theorem dX1_holderAt_10 : decode cX1_holderAt 10 = .ok (.iload_n 2, 1) := by decide +kernel
theorem dX1_holderAt_11 : decode cX1_holderAt 11 = .ok (.invokevirtual 64, 3) := by decide +kernel
theorem dX1_holderAt_14 : decode cX1_holderAt 14 = .ok (.iload_n 1, 1) := by decide +kernel
theorem dX1_holderAt_15 : decode cX1_holderAt 15 = .ok (.if_icmp .ne 5, 3) := by decide +kernel
theorem dX1_holderAt_18 : decode cX1_holderAt 18 = .ok (.iload_n 3, 1) := by decide +kernel
theorem dX1_holderAt_19 : decode cX1_holderAt 19 = .ok (.ireturn, 1) := by decide +kernel
theorem dX1_holderAt_20 : decode cX1_holderAt 20 = .ok (.iinc 3 1, 3) := by decide +kernel
theorem dX1_holderAt_23 : decode cX1_holderAt 23 = .ok (.goto (-21), 3) := by decide +kernel
theorem dX1_holderAt_26 : decode cX1_holderAt 26 = .ok (.iconst (-1), 1) := by decide +kernel
theorem dX1_holderAt_27 : decode cX1_holderAt 27 = .ok (.ireturn, 1) := by decide +kernel
def t_X1_holderAt_26 : am_T := tb_const (-1) <|
  tb_iret
def t_X1_holderAt_20 : am_T := tb_iinc 3 1 <|
  tb_head 2
def t_X1_holderAt_2 : am_T := tb_iload 3 <|
  tb_const 12 <|
  tb_ic (fun x y => y ≤ x) (t_X1_holderAt_26) <|
  tb_aload 0 <|
  tb_iload 3 <|
  tb_iload 2 <|
  tb_callV 1 sp_X1_nameAt 3 <|
  tb_iload 1 <|
  tb_ic (fun x y => x ≠ y) (t_X1_holderAt_20) <|
  tb_iload 3 <|
  tb_iret
def t_X1_holderAt_0 : am_T := tb_const 0 <|
  tb_istore 3 <|
  tb_head 2
def h_X1_holderAt : am_Hd := fun h => if h = 0 then t_X1_holderAt_0 else if h = 2 then t_X1_holderAt_2 else tb_bad
theorem h_X1_holderAt_0 : h_X1_holderAt 0 = t_X1_holderAt_0 := rfl
theorem h_X1_holderAt_2 : h_X1_holderAt 2 = t_X1_holderAt_2 := rfl
def rm_X1_holderAt : Room := { frames := 1, cells := 0, slots := 0, locals := 23 }
def sp_X1_holderAt : am_sp := fun as M Q => as.length ≤ 4 ∧ am_OK h_X1_holderAt Q 0 (am_in 4 as) M
theorem s_X1_holderAt_26 {G : am_G} {bc bs : Nat} (X : am_Cx G cX1_holderAt RX1 "holderAt" rm_X1_holderAt (some .int) 4 bc bs true) : am_S G 26 (t_X1_holderAt_26) := by
  unfold t_X1_holderAt_26
  refine as_iconst (pc := 26) X dX1_holderAt_26 (by decide) ?_
  exact as_iret (pc := 27) X ⟨rfl, rfl⟩ rfl dX1_holderAt_27
theorem s_X1_holderAt_20 {G : am_G} {bc bs : Nat} (X : am_Cx G cX1_holderAt RX1 "holderAt" rm_X1_holderAt (some .int) 4 bc bs true) : am_S G 20 (t_X1_holderAt_20) := by
  unfold t_X1_holderAt_20
  refine as_iinc (pc := 20) X dX1_holderAt_20 (by decide) (by decide) ?_
  exact as_goto (pc := 23) X 2 dX1_holderAt_23 (by decide) (as_head)
theorem s_X1_holderAt_2 {G : am_G} {bc bs : Nat} (X : am_Cx G cX1_holderAt RX1 "holderAt" rm_X1_holderAt (some .int) 4 bc bs true) : am_S G 2 (t_X1_holderAt_2) := by
  unfold t_X1_holderAt_2
  refine as_iload_n (pc := 2) X dX1_holderAt_2 rfl ?_
  refine as_bipush (pc := 3) X dX1_holderAt_3 (by decide) ?_
  refine as_ic_ge (pc := 5) X 26 dX1_holderAt_5 (by decide) (s_X1_holderAt_26 X) ?_
  refine as_aload_n (pc := 8) X dX1_holderAt_8 rfl ?_
  refine as_iload_n (pc := 9) X dX1_holderAt_9 rfl ?_
  refine as_iload_n (pc := 10) X dX1_holderAt_10 rfl ?_
  refine as_callV (ci := 1) (np := 2) (ix := 64) (pc := 11) X ct_X1_nameAt (Cn := (RX1, TX1, 14)) rfl ⟨rfl, rfl⟩ aw_275 aw_258 aw_259 aw_260 aw_19 (by decide +kernel) (by decide) dX1_holderAt_11 ?_
  refine as_iload_n (pc := 14) X dX1_holderAt_14 rfl ?_
  refine as_ic_ne (pc := 15) X 20 dX1_holderAt_15 (by decide) (s_X1_holderAt_20 X) ?_
  refine as_iload_n (pc := 18) X dX1_holderAt_18 rfl ?_
  exact as_iret (pc := 19) X ⟨rfl, rfl⟩ rfl dX1_holderAt_19
theorem s_X1_holderAt_0 {G : am_G} {bc bs : Nat} (X : am_Cx G cX1_holderAt RX1 "holderAt" rm_X1_holderAt (some .int) 4 bc bs true) : am_S G 0 (t_X1_holderAt_0) := by
  unfold t_X1_holderAt_0
  refine as_iconst (pc := 0) X dX1_holderAt_0 (by decide) ?_
  refine as_istore_n (pc := 1) X dX1_holderAt_1 rfl ?_ (by decide)
  exact as_head
theorem s_X1_holderAt {G : am_G} {bc bs : Nat} (X : am_Cx G cX1_holderAt RX1 "holderAt" rm_X1_holderAt (some .int) 4 bc bs true) (h : Nat) : am_S G h (h_X1_holderAt h) := by
  unfold h_X1_holderAt
  split
  · next e => rw [e]; exact s_X1_holderAt_0 X
  split
  · next e => rw [e]; exact s_X1_holderAt_2 X
  exact as_bad
theorem ct_X1_holderAt : am_Ct yX1_holderAt cX1_holderAt 4 (some .int) rm_X1_holderAt sp_X1_holderAt := am_met (own := RX1) (nm := "holderAt") (by decide) rfl rfl (Or.inr (Or.inl rfl)) (fun _ _ => h_X1_holderAt) (fun _ _ _ X => s_X1_holderAt X) (fun _ _ _ _ h => h)
-- X1_lastTakeTime
theorem dX1_lastTakeTime_0 : decode cX1_lastTakeTime 0 = .ok (.aload_n 0, 1) := by decide +kernel
theorem dX1_lastTakeTime_1 : decode cX1_lastTakeTime 1 = .ok (.getfield 9, 3) := by decide +kernel
theorem dX1_lastTakeTime_4 : decode cX1_lastTakeTime 4 = .ok (.ifCond .ne 7, 3) := by decide +kernel
theorem dX1_lastTakeTime_7 : decode cX1_lastTakeTime 7 = .ok (.iconst 0, 1) := by decide +kernel
theorem dX1_lastTakeTime_8 : decode cX1_lastTakeTime 8 = .ok (.goto 14, 3) := by decide +kernel
theorem dX1_lastTakeTime_11 : decode cX1_lastTakeTime 11 = .ok (.aload_n 0, 1) := by decide +kernel
theorem dX1_lastTakeTime_12 : decode cX1_lastTakeTime 12 = .ok (.getfield 22, 3) := by decide +kernel
theorem dX1_lastTakeTime_15 : decode cX1_lastTakeTime 15 = .ok (.aload_n 0, 1) := by decide +kernel
theorem dX1_lastTakeTime_16 : decode cX1_lastTakeTime 16 = .ok (.getfield 9, 3) := by decide +kernel
theorem dX1_lastTakeTime_19 : decode cX1_lastTakeTime 19 = .ok (.iconst 1, 1) := by decide +kernel
theorem dX1_lastTakeTime_20 : decode cX1_lastTakeTime 20 = .ok (.isub, 1) := by decide +kernel
theorem dX1_lastTakeTime_21 : decode cX1_lastTakeTime 21 = .ok (.iaload, 1) := by decide +kernel
theorem dX1_lastTakeTime_22 : decode cX1_lastTakeTime 22 = .ok (.ireturn, 1) := by decide +kernel
def t_X1_lastTakeTime_22 : am_T := tb_iret
def t_X1_lastTakeTime_11 : am_T := tb_aload 0 <|
  tb_getR 1 3 <|
  tb_aload 0 <|
  tb_getI 1 0 <|
  tb_const 1 <|
  tb_bin (fun x y => x - y) <|
  tb_iald <|
  t_X1_lastTakeTime_22
def t_X1_lastTakeTime_0 : am_T := tb_aload 0 <|
  tb_getI 1 0 <|
  tb_if (fun x => x ≠ 0) (t_X1_lastTakeTime_11) <|
  tb_const 0 <|
  t_X1_lastTakeTime_22
def h_X1_lastTakeTime : am_Hd := fun h => if h = 0 then t_X1_lastTakeTime_0 else tb_bad
theorem h_X1_lastTakeTime_0 : h_X1_lastTakeTime 0 = t_X1_lastTakeTime_0 := rfl
def rm_X1_lastTakeTime : Room := { frames := 0, cells := 0, slots := 0, locals := 0 }
def sp_X1_lastTakeTime : am_sp := fun as M Q => as.length ≤ 1 ∧ am_OK h_X1_lastTakeTime Q 0 (am_in 1 as) M
theorem s_X1_lastTakeTime_22 {G : am_G} {bc bs : Nat} (X : am_Cx G cX1_lastTakeTime RX1 "lastTakeTime" rm_X1_lastTakeTime (some .int) 1 bc bs true) : am_S G 22 (t_X1_lastTakeTime_22) := by
  unfold t_X1_lastTakeTime_22
  exact as_iret (pc := 22) X ⟨rfl, rfl⟩ rfl dX1_lastTakeTime_22
theorem s_X1_lastTakeTime_11 {G : am_G} {bc bs : Nat} (X : am_Cx G cX1_lastTakeTime RX1 "lastTakeTime" rm_X1_lastTakeTime (some .int) 1 bc bs true) : am_S G 11 (t_X1_lastTakeTime_11) := by
  unfold t_X1_lastTakeTime_11
  refine as_aload_n (pc := 11) X dX1_lastTakeTime_11 rfl ?_
  refine as_getR (ci := 1) (j := 3) (pc := 12) X (Cn := RX1) (Tf := TX1) (N := 14) rfl rfl (by decide) iw_X1 aw_54 rfl dX1_lastTakeTime_12 ?_
  refine as_aload_n (pc := 15) X dX1_lastTakeTime_15 rfl ?_
  refine as_getI (ci := 1) (j := 0) (pc := 16) X (Cn := RX1) (Tf := TX1) (N := 14) rfl rfl (by decide) iw_X1 aw_50 rfl dX1_lastTakeTime_16 ?_
  refine as_iconst (pc := 19) X dX1_lastTakeTime_19 (by decide) ?_
  refine as_isub (pc := 20) X dX1_lastTakeTime_20 ?_
  refine as_iald (pc := 21) X dX1_lastTakeTime_21 ?_
  exact s_X1_lastTakeTime_22 X
theorem s_X1_lastTakeTime_0 {G : am_G} {bc bs : Nat} (X : am_Cx G cX1_lastTakeTime RX1 "lastTakeTime" rm_X1_lastTakeTime (some .int) 1 bc bs true) : am_S G 0 (t_X1_lastTakeTime_0) := by
  unfold t_X1_lastTakeTime_0
  refine as_aload_n (pc := 0) X dX1_lastTakeTime_0 rfl ?_
  refine as_getI (ci := 1) (j := 0) (pc := 1) X (Cn := RX1) (Tf := TX1) (N := 14) rfl rfl (by decide) iw_X1 aw_50 rfl dX1_lastTakeTime_1 ?_
  refine as_if_ne (pc := 4) X 11 dX1_lastTakeTime_4 (by decide) (s_X1_lastTakeTime_11 X) ?_
  refine as_iconst (pc := 7) X dX1_lastTakeTime_7 (by decide) ?_
  exact as_goto (pc := 8) X 22 dX1_lastTakeTime_8 (by decide) (s_X1_lastTakeTime_22 X)
theorem s_X1_lastTakeTime {G : am_G} {bc bs : Nat} (X : am_Cx G cX1_lastTakeTime RX1 "lastTakeTime" rm_X1_lastTakeTime (some .int) 1 bc bs true) (h : Nat) : am_S G h (h_X1_lastTakeTime h) := by
  unfold h_X1_lastTakeTime
  split
  · next e => rw [e]; exact s_X1_lastTakeTime_0 X
  exact as_bad
theorem ct_X1_lastTakeTime : am_Ct yX1_lastTakeTime cX1_lastTakeTime 1 (some .int) rm_X1_lastTakeTime sp_X1_lastTakeTime := am_met (own := RX1) (nm := "lastTakeTime") (by decide) rfl rfl (Or.inr (Or.inl rfl)) (fun _ _ => h_X1_lastTakeTime) (fun _ _ _ X => s_X1_lastTakeTime X) (fun _ _ _ _ h => h)
-- X0_dropOldest
theorem dX0_dropOldest_0 : decode cX0_dropOldest 0 = .ok (.aload_n 0, 1) := by decide +kernel
theorem dX0_dropOldest_1 : decode cX0_dropOldest 1 = .ok (.getfield 17, 3) := by decide +kernel
theorem dX0_dropOldest_4 : decode cX0_dropOldest 4 = .ok (.iconst 0, 1) := by decide +kernel
theorem dX0_dropOldest_5 : decode cX0_dropOldest 5 = .ok (.aaload, 1) := by decide +kernel
theorem dX0_dropOldest_6 : decode cX0_dropOldest 6 = .ok (.astore_n 1, 1) := by decide +kernel
theorem dX0_dropOldest_7 : decode cX0_dropOldest 7 = .ok (.iconst 1, 1) := by decide +kernel
theorem dX0_dropOldest_8 : decode cX0_dropOldest 8 = .ok (.istore_n 2, 1) := by decide +kernel
theorem dX0_dropOldest_9 : decode cX0_dropOldest 9 = .ok (.iload_n 2, 1) := by decide +kernel
theorem dX0_dropOldest_10 : decode cX0_dropOldest 10 = .ok (.iconst 4, 1) := by decide +kernel
theorem dX0_dropOldest_11 : decode cX0_dropOldest 11 = .ok (.if_icmp .ge 23, 3) := by decide +kernel
theorem dX0_dropOldest_14 : decode cX0_dropOldest 14 = .ok (.aload_n 0, 1) := by decide +kernel
theorem dX0_dropOldest_15 : decode cX0_dropOldest 15 = .ok (.getfield 17, 3) := by decide +kernel
theorem dX0_dropOldest_18 : decode cX0_dropOldest 18 = .ok (.iload_n 2, 1) := by decide +kernel
theorem dX0_dropOldest_19 : decode cX0_dropOldest 19 = .ok (.iconst 1, 1) := by decide +kernel
theorem dX0_dropOldest_20 : decode cX0_dropOldest 20 = .ok (.isub, 1) := by decide +kernel
theorem dX0_dropOldest_21 : decode cX0_dropOldest 21 = .ok (.aload_n 0, 1) := by decide +kernel
theorem dX0_dropOldest_22 : decode cX0_dropOldest 22 = .ok (.getfield 17, 3) := by decide +kernel
theorem dX0_dropOldest_25 : decode cX0_dropOldest 25 = .ok (.iload_n 2, 1) := by decide +kernel
theorem dX0_dropOldest_26 : decode cX0_dropOldest 26 = .ok (.aaload, 1) := by decide +kernel
theorem dX0_dropOldest_27 : decode cX0_dropOldest 27 = .ok (.aastore, 1) := by decide +kernel
theorem dX0_dropOldest_28 : decode cX0_dropOldest 28 = .ok (.iinc 2 1, 3) := by decide +kernel
theorem dX0_dropOldest_31 : decode cX0_dropOldest 31 = .ok (.goto (-22), 3) := by decide +kernel
theorem dX0_dropOldest_34 : decode cX0_dropOldest 34 = .ok (.aload_n 0, 1) := by decide +kernel
theorem dX0_dropOldest_35 : decode cX0_dropOldest 35 = .ok (.getfield 17, 3) := by decide +kernel
theorem dX0_dropOldest_38 : decode cX0_dropOldest 38 = .ok (.iconst 3, 1) := by decide +kernel
theorem dX0_dropOldest_39 : decode cX0_dropOldest 39 = .ok (.aload_n 1, 1) := by decide +kernel
theorem dX0_dropOldest_40 : decode cX0_dropOldest 40 = .ok (.aastore, 1) := by decide +kernel
theorem dX0_dropOldest_41 : decode cX0_dropOldest 41 = .ok (.aload_n 0, 1) := by decide +kernel
theorem dX0_dropOldest_42 : decode cX0_dropOldest 42 = .ok (.dup, 1) := by decide +kernel
theorem dX0_dropOldest_43 : decode cX0_dropOldest 43 = .ok (.getfield 9, 3) := by decide +kernel
theorem dX0_dropOldest_46 : decode cX0_dropOldest 46 = .ok (.iconst 1, 1) := by decide +kernel
theorem dX0_dropOldest_47 : decode cX0_dropOldest 47 = .ok (.isub, 1) := by decide +kernel
theorem dX0_dropOldest_48 : decode cX0_dropOldest 48 = .ok (.putfield 9, 3) := by decide +kernel
theorem dX0_dropOldest_51 : decode cX0_dropOldest 51 = .ok (.return_, 1) := by decide +kernel
def t_X0_dropOldest_34 : am_T := tb_aload 0 <|
  tb_getR 0 1 <|
  tb_const 3 <|
  tb_aload 1 <|
  tb_aast <|
  tb_aload 0 <|
  tb_dup <|
  tb_getI 0 0 <|
  tb_const 1 <|
  tb_bin (fun x y => x - y) <|
  tb_putI 0 0 <|
  tb_ret
def t_X0_dropOldest_9 : am_T := tb_iload 2 <|
  tb_const 4 <|
  tb_ic (fun x y => y ≤ x) (t_X0_dropOldest_34) <|
  tb_aload 0 <|
  tb_getR 0 1 <|
  tb_iload 2 <|
  tb_const 1 <|
  tb_bin (fun x y => x - y) <|
  tb_aload 0 <|
  tb_getR 0 1 <|
  tb_iload 2 <|
  tb_aald <|
  tb_aast <|
  tb_iinc 2 1 <|
  tb_head 9
def t_X0_dropOldest_0 : am_T := tb_aload 0 <|
  tb_getR 0 1 <|
  tb_const 0 <|
  tb_aald <|
  tb_astore 1 <|
  tb_const 1 <|
  tb_istore 2 <|
  tb_head 9
def h_X0_dropOldest : am_Hd := fun h => if h = 0 then t_X0_dropOldest_0 else if h = 9 then t_X0_dropOldest_9 else tb_bad
theorem h_X0_dropOldest_0 : h_X0_dropOldest 0 = t_X0_dropOldest_0 := rfl
theorem h_X0_dropOldest_9 : h_X0_dropOldest 9 = t_X0_dropOldest_9 := rfl
def rm_X0_dropOldest : Room := { frames := 0, cells := 0, slots := 0, locals := 0 }
def sp_X0_dropOldest : am_sp := fun as M Q => as.length ≤ 3 ∧ am_OK h_X0_dropOldest Q 0 (am_in 3 as) M
theorem s_X0_dropOldest_34 {G : am_G} {bc bs : Nat} (X : am_Cx G cX0_dropOldest RX0 "dropOldest" rm_X0_dropOldest none 3 bc bs true) : am_S G 34 (t_X0_dropOldest_34) := by
  unfold t_X0_dropOldest_34
  refine as_aload_n (pc := 34) X dX0_dropOldest_34 rfl ?_
  refine as_getR (ci := 0) (j := 1) (pc := 35) X (Cn := RX0) (Tf := TX0) (N := 2) rfl rfl (by decide) iw_X0 aw_185 rfl dX0_dropOldest_35 ?_
  refine as_iconst (pc := 38) X dX0_dropOldest_38 (by decide) ?_
  refine as_aload_n (pc := 39) X dX0_dropOldest_39 rfl ?_
  refine as_aast (pc := 40) X dX0_dropOldest_40 ?_
  refine as_aload_n (pc := 41) X dX0_dropOldest_41 rfl ?_
  refine as_dup (pc := 42) X dX0_dropOldest_42 ?_
  refine as_getI (ci := 0) (j := 0) (pc := 43) X (Cn := RX0) (Tf := TX0) (N := 2) rfl rfl (by decide) iw_X0 aw_183 rfl dX0_dropOldest_43 ?_
  refine as_iconst (pc := 46) X dX0_dropOldest_46 (by decide) ?_
  refine as_isub (pc := 47) X dX0_dropOldest_47 ?_
  refine as_putI (ci := 0) (j := 0) (pc := 48) X (Cn := RX0) (Tf := TX0) (N := 2) rfl rfl (by decide) iw_X0 aw_183 tyX0 tyX0_ok nmX0 rfl rfl (by decide +kernel) dX0_dropOldest_48 ?_
  exact as_ret (pc := 51) X ⟨rfl, rfl⟩ rfl dX0_dropOldest_51
theorem s_X0_dropOldest_9 {G : am_G} {bc bs : Nat} (X : am_Cx G cX0_dropOldest RX0 "dropOldest" rm_X0_dropOldest none 3 bc bs true) : am_S G 9 (t_X0_dropOldest_9) := by
  unfold t_X0_dropOldest_9
  refine as_iload_n (pc := 9) X dX0_dropOldest_9 rfl ?_
  refine as_iconst (pc := 10) X dX0_dropOldest_10 (by decide) ?_
  refine as_ic_ge (pc := 11) X 34 dX0_dropOldest_11 (by decide) (s_X0_dropOldest_34 X) ?_
  refine as_aload_n (pc := 14) X dX0_dropOldest_14 rfl ?_
  refine as_getR (ci := 0) (j := 1) (pc := 15) X (Cn := RX0) (Tf := TX0) (N := 2) rfl rfl (by decide) iw_X0 aw_185 rfl dX0_dropOldest_15 ?_
  refine as_iload_n (pc := 18) X dX0_dropOldest_18 rfl ?_
  refine as_iconst (pc := 19) X dX0_dropOldest_19 (by decide) ?_
  refine as_isub (pc := 20) X dX0_dropOldest_20 ?_
  refine as_aload_n (pc := 21) X dX0_dropOldest_21 rfl ?_
  refine as_getR (ci := 0) (j := 1) (pc := 22) X (Cn := RX0) (Tf := TX0) (N := 2) rfl rfl (by decide) iw_X0 aw_185 rfl dX0_dropOldest_22 ?_
  refine as_iload_n (pc := 25) X dX0_dropOldest_25 rfl ?_
  refine as_aald (pc := 26) X dX0_dropOldest_26 ?_
  refine as_aast (pc := 27) X dX0_dropOldest_27 ?_
  refine as_iinc (pc := 28) X dX0_dropOldest_28 (by decide) (by decide) ?_
  exact as_goto (pc := 31) X 9 dX0_dropOldest_31 (by decide) (as_head)
theorem s_X0_dropOldest_0 {G : am_G} {bc bs : Nat} (X : am_Cx G cX0_dropOldest RX0 "dropOldest" rm_X0_dropOldest none 3 bc bs true) : am_S G 0 (t_X0_dropOldest_0) := by
  unfold t_X0_dropOldest_0
  refine as_aload_n (pc := 0) X dX0_dropOldest_0 rfl ?_
  refine as_getR (ci := 0) (j := 1) (pc := 1) X (Cn := RX0) (Tf := TX0) (N := 2) rfl rfl (by decide) iw_X0 aw_185 rfl dX0_dropOldest_1 ?_
  refine as_iconst (pc := 4) X dX0_dropOldest_4 (by decide) ?_
  refine as_aald (pc := 5) X dX0_dropOldest_5 ?_
  refine as_astore_n (pc := 6) X dX0_dropOldest_6 rfl ?_ (by decide)
  refine as_iconst (pc := 7) X dX0_dropOldest_7 (by decide) ?_
  refine as_istore_n (pc := 8) X dX0_dropOldest_8 rfl ?_ (by decide)
  exact as_head
theorem s_X0_dropOldest {G : am_G} {bc bs : Nat} (X : am_Cx G cX0_dropOldest RX0 "dropOldest" rm_X0_dropOldest none 3 bc bs true) (h : Nat) : am_S G h (h_X0_dropOldest h) := by
  unfold h_X0_dropOldest
  split
  · next e => rw [e]; exact s_X0_dropOldest_0 X
  split
  · next e => rw [e]; exact s_X0_dropOldest_9 X
  exact as_bad
theorem ct_X0_dropOldest : am_Ct yX0_dropOldest cX0_dropOldest 3 none rm_X0_dropOldest sp_X0_dropOldest := am_met (own := RX0) (nm := "dropOldest") (by decide) rfl rfl (Or.inl rfl) (fun _ _ => h_X0_dropOldest) (fun _ _ _ X => s_X0_dropOldest X) (fun _ _ _ _ h => h)
-- X1_copyFrom
theorem dX1_copyFrom_0 : decode cX1_copyFrom 0 = .ok (.aload_n 0, 1) := by decide +kernel
theorem dX1_copyFrom_1 : decode cX1_copyFrom 1 = .ok (.aload_n 1, 1) := by decide +kernel
theorem dX1_copyFrom_2 : decode cX1_copyFrom 2 = .ok (.getfield 9, 3) := by decide +kernel
theorem dX1_copyFrom_5 : decode cX1_copyFrom 5 = .ok (.putfield 9, 3) := by decide +kernel
theorem dX1_copyFrom_8 : decode cX1_copyFrom 8 = .ok (.aload_n 1, 1) := by decide +kernel
theorem dX1_copyFrom_9 : decode cX1_copyFrom 9 = .ok (.getfield 15, 3) := by decide +kernel
theorem dX1_copyFrom_12 : decode cX1_copyFrom 12 = .ok (.iconst 0, 1) := by decide +kernel
theorem dX1_copyFrom_13 : decode cX1_copyFrom 13 = .ok (.aload_n 0, 1) := by decide +kernel
theorem dX1_copyFrom_14 : decode cX1_copyFrom 14 = .ok (.getfield 15, 3) := by decide +kernel
theorem dX1_copyFrom_17 : decode cX1_copyFrom 17 = .ok (.iconst 0, 1) := by decide +kernel
theorem dX1_copyFrom_18 : decode cX1_copyFrom 18 = .ok (.bipush 20, 2) := by decide +kernel
theorem dX1_copyFrom_20 : decode cX1_copyFrom 20 = .ok (.invokestatic 58, 3) := by decide +kernel
theorem dX1_copyFrom_23 : decode cX1_copyFrom 23 = .ok (.aload_n 1, 1) := by decide +kernel
theorem dX1_copyFrom_24 : decode cX1_copyFrom 24 = .ok (.getfield 19, 3) := by decide +kernel
theorem dX1_copyFrom_27 : decode cX1_copyFrom 27 = .ok (.iconst 0, 1) := by decide +kernel
theorem dX1_copyFrom_28 : decode cX1_copyFrom 28 = .ok (.aload_n 0, 1) := by decide +kernel
theorem dX1_copyFrom_29 : decode cX1_copyFrom 29 = .ok (.getfield 19, 3) := by decide +kernel
theorem dX1_copyFrom_32 : decode cX1_copyFrom 32 = .ok (.iconst 0, 1) := by decide +kernel
theorem dX1_copyFrom_33 : decode cX1_copyFrom 33 = .ok (.bipush 20, 2) := by decide +kernel
theorem dX1_copyFrom_35 : decode cX1_copyFrom 35 = .ok (.invokestatic 58, 3) := by decide +kernel
theorem dX1_copyFrom_38 : decode cX1_copyFrom 38 = .ok (.aload_n 1, 1) := by decide +kernel
theorem dX1_copyFrom_39 : decode cX1_copyFrom 39 = .ok (.getfield 22, 3) := by decide +kernel
theorem dX1_copyFrom_42 : decode cX1_copyFrom 42 = .ok (.iconst 0, 1) := by decide +kernel
theorem dX1_copyFrom_43 : decode cX1_copyFrom 43 = .ok (.aload_n 0, 1) := by decide +kernel
theorem dX1_copyFrom_44 : decode cX1_copyFrom 44 = .ok (.getfield 22, 3) := by decide +kernel
theorem dX1_copyFrom_47 : decode cX1_copyFrom 47 = .ok (.iconst 0, 1) := by decide +kernel
theorem dX1_copyFrom_48 : decode cX1_copyFrom 48 = .ok (.bipush 20, 2) := by decide +kernel
theorem dX1_copyFrom_50 : decode cX1_copyFrom 50 = .ok (.invokestatic 58, 3) := by decide +kernel
theorem dX1_copyFrom_53 : decode cX1_copyFrom 53 = .ok (.aload_n 0, 1) := by decide +kernel
theorem dX1_copyFrom_54 : decode cX1_copyFrom 54 = .ok (.aload_n 1, 1) := by decide +kernel
theorem dX1_copyFrom_55 : decode cX1_copyFrom 55 = .ok (.getfield 25, 3) := by decide +kernel
theorem dX1_copyFrom_58 : decode cX1_copyFrom 58 = .ok (.putfield 25, 3) := by decide +kernel
theorem dX1_copyFrom_61 : decode cX1_copyFrom 61 = .ok (.aload_n 1, 1) := by decide +kernel
theorem dX1_copyFrom_62 : decode cX1_copyFrom 62 = .ok (.getfield 28, 3) := by decide +kernel
theorem dX1_copyFrom_65 : decode cX1_copyFrom 65 = .ok (.iconst 0, 1) := by decide +kernel
theorem dX1_copyFrom_66 : decode cX1_copyFrom 66 = .ok (.aload_n 0, 1) := by decide +kernel
theorem dX1_copyFrom_67 : decode cX1_copyFrom 67 = .ok (.getfield 28, 3) := by decide +kernel
theorem dX1_copyFrom_70 : decode cX1_copyFrom 70 = .ok (.iconst 0, 1) := by decide +kernel
theorem dX1_copyFrom_71 : decode cX1_copyFrom 71 = .ok (.bipush 30, 2) := by decide +kernel
theorem dX1_copyFrom_73 : decode cX1_copyFrom 73 = .ok (.invokestatic 58, 3) := by decide +kernel
theorem dX1_copyFrom_76 : decode cX1_copyFrom 76 = .ok (.aload_n 1, 1) := by decide +kernel
theorem dX1_copyFrom_77 : decode cX1_copyFrom 77 = .ok (.getfield 31, 3) := by decide +kernel
theorem dX1_copyFrom_80 : decode cX1_copyFrom 80 = .ok (.iconst 0, 1) := by decide +kernel
theorem dX1_copyFrom_81 : decode cX1_copyFrom 81 = .ok (.aload_n 0, 1) := by decide +kernel
theorem dX1_copyFrom_82 : decode cX1_copyFrom 82 = .ok (.getfield 31, 3) := by decide +kernel
theorem dX1_copyFrom_85 : decode cX1_copyFrom 85 = .ok (.iconst 0, 1) := by decide +kernel
theorem dX1_copyFrom_86 : decode cX1_copyFrom 86 = .ok (.bipush 30, 2) := by decide +kernel
theorem dX1_copyFrom_88 : decode cX1_copyFrom 88 = .ok (.invokestatic 58, 3) := by decide +kernel
theorem dX1_copyFrom_91 : decode cX1_copyFrom 91 = .ok (.aload_n 1, 1) := by decide +kernel
theorem dX1_copyFrom_92 : decode cX1_copyFrom 92 = .ok (.getfield 34, 3) := by decide +kernel
theorem dX1_copyFrom_95 : decode cX1_copyFrom 95 = .ok (.iconst 0, 1) := by decide +kernel
theorem dX1_copyFrom_96 : decode cX1_copyFrom 96 = .ok (.aload_n 0, 1) := by decide +kernel
theorem dX1_copyFrom_97 : decode cX1_copyFrom 97 = .ok (.getfield 34, 3) := by decide +kernel
theorem dX1_copyFrom_100 : decode cX1_copyFrom 100 = .ok (.iconst 0, 1) := by decide +kernel
theorem dX1_copyFrom_101 : decode cX1_copyFrom 101 = .ok (.bipush 30, 2) := by decide +kernel
theorem dX1_copyFrom_103 : decode cX1_copyFrom 103 = .ok (.invokestatic 58, 3) := by decide +kernel
theorem dX1_copyFrom_106 : decode cX1_copyFrom 106 = .ok (.aload_n 1, 1) := by decide +kernel
theorem dX1_copyFrom_107 : decode cX1_copyFrom 107 = .ok (.getfield 37, 3) := by decide +kernel
theorem dX1_copyFrom_110 : decode cX1_copyFrom 110 = .ok (.iconst 0, 1) := by decide +kernel
theorem dX1_copyFrom_111 : decode cX1_copyFrom 111 = .ok (.aload_n 0, 1) := by decide +kernel
theorem dX1_copyFrom_112 : decode cX1_copyFrom 112 = .ok (.getfield 37, 3) := by decide +kernel
theorem dX1_copyFrom_115 : decode cX1_copyFrom 115 = .ok (.iconst 0, 1) := by decide +kernel
theorem dX1_copyFrom_116 : decode cX1_copyFrom 116 = .ok (.bipush 30, 2) := by decide +kernel
theorem dX1_copyFrom_118 : decode cX1_copyFrom 118 = .ok (.invokestatic 58, 3) := by decide +kernel
theorem dX1_copyFrom_121 : decode cX1_copyFrom 121 = .ok (.aload_n 0, 1) := by decide +kernel
theorem dX1_copyFrom_122 : decode cX1_copyFrom 122 = .ok (.aload_n 1, 1) := by decide +kernel
theorem dX1_copyFrom_123 : decode cX1_copyFrom 123 = .ok (.getfield 40, 3) := by decide +kernel
theorem dX1_copyFrom_126 : decode cX1_copyFrom 126 = .ok (.putfield 40, 3) := by decide +kernel
theorem dX1_copyFrom_129 : decode cX1_copyFrom 129 = .ok (.aload_n 1, 1) := by decide +kernel
theorem dX1_copyFrom_130 : decode cX1_copyFrom 130 = .ok (.getfield 43, 3) := by decide +kernel
theorem dX1_copyFrom_133 : decode cX1_copyFrom 133 = .ok (.iconst 0, 1) := by decide +kernel
theorem dX1_copyFrom_134 : decode cX1_copyFrom 134 = .ok (.aload_n 0, 1) := by decide +kernel
theorem dX1_copyFrom_135 : decode cX1_copyFrom 135 = .ok (.getfield 43, 3) := by decide +kernel
theorem dX1_copyFrom_138 : decode cX1_copyFrom 138 = .ok (.iconst 0, 1) := by decide +kernel
theorem dX1_copyFrom_139 : decode cX1_copyFrom 139 = .ok (.bipush 12, 2) := by decide +kernel
theorem dX1_copyFrom_141 : decode cX1_copyFrom 141 = .ok (.invokestatic 58, 3) := by decide +kernel
theorem dX1_copyFrom_144 : decode cX1_copyFrom 144 = .ok (.aload_n 1, 1) := by decide +kernel
theorem dX1_copyFrom_145 : decode cX1_copyFrom 145 = .ok (.getfield 46, 3) := by decide +kernel
theorem dX1_copyFrom_148 : decode cX1_copyFrom 148 = .ok (.iconst 0, 1) := by decide +kernel
theorem dX1_copyFrom_149 : decode cX1_copyFrom 149 = .ok (.aload_n 0, 1) := by decide +kernel
theorem dX1_copyFrom_150 : decode cX1_copyFrom 150 = .ok (.getfield 46, 3) := by decide +kernel
theorem dX1_copyFrom_153 : decode cX1_copyFrom 153 = .ok (.iconst 0, 1) := by decide +kernel
theorem dX1_copyFrom_154 : decode cX1_copyFrom 154 = .ok (.bipush 12, 2) := by decide +kernel
theorem dX1_copyFrom_156 : decode cX1_copyFrom 156 = .ok (.invokestatic 58, 3) := by decide +kernel
theorem dX1_copyFrom_159 : decode cX1_copyFrom 159 = .ok (.aload_n 1, 1) := by decide +kernel
theorem dX1_copyFrom_160 : decode cX1_copyFrom 160 = .ok (.getfield 49, 3) := by decide +kernel
theorem dX1_copyFrom_163 : decode cX1_copyFrom 163 = .ok (.iconst 0, 1) := by decide +kernel
theorem dX1_copyFrom_164 : decode cX1_copyFrom 164 = .ok (.aload_n 0, 1) := by decide +kernel
theorem dX1_copyFrom_165 : decode cX1_copyFrom 165 = .ok (.getfield 49, 3) := by decide +kernel
theorem dX1_copyFrom_168 : decode cX1_copyFrom 168 = .ok (.iconst 0, 1) := by decide +kernel
theorem dX1_copyFrom_169 : decode cX1_copyFrom 169 = .ok (.bipush 12, 2) := by decide +kernel
theorem dX1_copyFrom_171 : decode cX1_copyFrom 171 = .ok (.invokestatic 58, 3) := by decide +kernel
theorem dX1_copyFrom_174 : decode cX1_copyFrom 174 = .ok (.aload_n 1, 1) := by decide +kernel
theorem dX1_copyFrom_175 : decode cX1_copyFrom 175 = .ok (.getfield 52, 3) := by decide +kernel
theorem dX1_copyFrom_178 : decode cX1_copyFrom 178 = .ok (.iconst 0, 1) := by decide +kernel
theorem dX1_copyFrom_179 : decode cX1_copyFrom 179 = .ok (.aload_n 0, 1) := by decide +kernel
theorem dX1_copyFrom_180 : decode cX1_copyFrom 180 = .ok (.getfield 52, 3) := by decide +kernel
theorem dX1_copyFrom_183 : decode cX1_copyFrom 183 = .ok (.iconst 0, 1) := by decide +kernel
theorem dX1_copyFrom_184 : decode cX1_copyFrom 184 = .ok (.bipush 8, 2) := by decide +kernel
theorem dX1_copyFrom_186 : decode cX1_copyFrom 186 = .ok (.invokestatic 58, 3) := by decide +kernel
theorem dX1_copyFrom_189 : decode cX1_copyFrom 189 = .ok (.return_, 1) := by decide +kernel
def t_X1_copyFrom_0 : am_T := tb_aload 0 <|
  tb_aload 1 <|
  tb_getI 1 0 <|
  tb_putI 1 0 <|
  tb_aload 1 <|
  tb_getR 1 1 <|
  tb_const 0 <|
  tb_aload 0 <|
  tb_getR 1 1 <|
  tb_const 0 <|
  tb_const 20 <|
  tb_copy <|
  tb_aload 1 <|
  tb_getR 1 2 <|
  tb_const 0 <|
  tb_aload 0 <|
  tb_getR 1 2 <|
  tb_const 0 <|
  tb_const 20 <|
  tb_copy <|
  tb_aload 1 <|
  tb_getR 1 3 <|
  tb_const 0 <|
  tb_aload 0 <|
  tb_getR 1 3 <|
  tb_const 0 <|
  tb_const 20 <|
  tb_copy <|
  tb_aload 0 <|
  tb_aload 1 <|
  tb_getI 1 4 <|
  tb_putI 1 4 <|
  tb_aload 1 <|
  tb_getR 1 5 <|
  tb_const 0 <|
  tb_aload 0 <|
  tb_getR 1 5 <|
  tb_const 0 <|
  tb_const 30 <|
  tb_copy <|
  tb_aload 1 <|
  tb_getR 1 6 <|
  tb_const 0 <|
  tb_aload 0 <|
  tb_getR 1 6 <|
  tb_const 0 <|
  tb_const 30 <|
  tb_copy <|
  tb_aload 1 <|
  tb_getR 1 7 <|
  tb_const 0 <|
  tb_aload 0 <|
  tb_getR 1 7 <|
  tb_const 0 <|
  tb_const 30 <|
  tb_copy <|
  tb_aload 1 <|
  tb_getR 1 8 <|
  tb_const 0 <|
  tb_aload 0 <|
  tb_getR 1 8 <|
  tb_const 0 <|
  tb_const 30 <|
  tb_copy <|
  tb_aload 0 <|
  tb_aload 1 <|
  tb_getI 1 9 <|
  tb_putI 1 9 <|
  tb_aload 1 <|
  tb_getR 1 10 <|
  tb_const 0 <|
  tb_aload 0 <|
  tb_getR 1 10 <|
  tb_const 0 <|
  tb_const 12 <|
  tb_copy <|
  tb_aload 1 <|
  tb_getR 1 11 <|
  tb_const 0 <|
  tb_aload 0 <|
  tb_getR 1 11 <|
  tb_const 0 <|
  tb_const 12 <|
  tb_copy <|
  tb_aload 1 <|
  tb_getR 1 12 <|
  tb_const 0 <|
  tb_aload 0 <|
  tb_getR 1 12 <|
  tb_const 0 <|
  tb_const 12 <|
  tb_copy <|
  tb_aload 1 <|
  tb_getR 1 13 <|
  tb_const 0 <|
  tb_aload 0 <|
  tb_getR 1 13 <|
  tb_const 0 <|
  tb_const 8 <|
  tb_copy <|
  tb_ret
def h_X1_copyFrom : am_Hd := fun h => if h = 0 then t_X1_copyFrom_0 else tb_bad
theorem h_X1_copyFrom_0 : h_X1_copyFrom 0 = t_X1_copyFrom_0 := rfl
def rm_X1_copyFrom : Room := { frames := 1, cells := 0, slots := 0, locals := 26 }
def sp_X1_copyFrom : am_sp := fun as M Q => as.length ≤ 2 ∧ am_OK h_X1_copyFrom Q 0 (am_in 2 as) M
theorem s_X1_copyFrom_0 {G : am_G} {bc bs : Nat} (X : am_Cx G cX1_copyFrom RX1 "copyFrom" rm_X1_copyFrom none 2 bc bs true) : am_S G 0 (t_X1_copyFrom_0) := by
  unfold t_X1_copyFrom_0
  refine as_aload_n (pc := 0) X dX1_copyFrom_0 rfl ?_
  refine as_aload_n (pc := 1) X dX1_copyFrom_1 rfl ?_
  refine as_getI (ci := 1) (j := 0) (pc := 2) X (Cn := RX1) (Tf := TX1) (N := 14) rfl rfl (by decide) iw_X1 aw_50 rfl dX1_copyFrom_2 ?_
  refine as_putI (ci := 1) (j := 0) (pc := 5) X (Cn := RX1) (Tf := TX1) (N := 14) rfl rfl (by decide) iw_X1 aw_50 tyX1 tyX1_ok nmX1 rfl rfl (by decide +kernel) dX1_copyFrom_5 ?_
  refine as_aload_n (pc := 8) X dX1_copyFrom_8 rfl ?_
  refine as_getR (ci := 1) (j := 1) (pc := 9) X (Cn := RX1) (Tf := TX1) (N := 14) rfl rfl (by decide) iw_X1 aw_52 rfl dX1_copyFrom_9 ?_
  refine as_iconst (pc := 12) X dX1_copyFrom_12 (by decide) ?_
  refine as_aload_n (pc := 13) X dX1_copyFrom_13 rfl ?_
  refine as_getR (ci := 1) (j := 1) (pc := 14) X (Cn := RX1) (Tf := TX1) (N := 14) rfl rfl (by decide) iw_X1 aw_52 rfl dX1_copyFrom_14 ?_
  refine as_iconst (pc := 17) X dX1_copyFrom_17 (by decide) ?_
  refine as_bipush (pc := 18) X dX1_copyFrom_18 (by decide) ?_
  refine as_copy (pc := 20) X aw_47 aw_49 aw_48 aw_20 (by decide) (by decide) dX1_copyFrom_20 ?_
  refine as_aload_n (pc := 23) X dX1_copyFrom_23 rfl ?_
  refine as_getR (ci := 1) (j := 2) (pc := 24) X (Cn := RX1) (Tf := TX1) (N := 14) rfl rfl (by decide) iw_X1 aw_53 rfl dX1_copyFrom_24 ?_
  refine as_iconst (pc := 27) X dX1_copyFrom_27 (by decide) ?_
  refine as_aload_n (pc := 28) X dX1_copyFrom_28 rfl ?_
  refine as_getR (ci := 1) (j := 2) (pc := 29) X (Cn := RX1) (Tf := TX1) (N := 14) rfl rfl (by decide) iw_X1 aw_53 rfl dX1_copyFrom_29 ?_
  refine as_iconst (pc := 32) X dX1_copyFrom_32 (by decide) ?_
  refine as_bipush (pc := 33) X dX1_copyFrom_33 (by decide) ?_
  refine as_copy (pc := 35) X aw_47 aw_49 aw_48 aw_20 (by decide) (by decide) dX1_copyFrom_35 ?_
  refine as_aload_n (pc := 38) X dX1_copyFrom_38 rfl ?_
  refine as_getR (ci := 1) (j := 3) (pc := 39) X (Cn := RX1) (Tf := TX1) (N := 14) rfl rfl (by decide) iw_X1 aw_54 rfl dX1_copyFrom_39 ?_
  refine as_iconst (pc := 42) X dX1_copyFrom_42 (by decide) ?_
  refine as_aload_n (pc := 43) X dX1_copyFrom_43 rfl ?_
  refine as_getR (ci := 1) (j := 3) (pc := 44) X (Cn := RX1) (Tf := TX1) (N := 14) rfl rfl (by decide) iw_X1 aw_54 rfl dX1_copyFrom_44 ?_
  refine as_iconst (pc := 47) X dX1_copyFrom_47 (by decide) ?_
  refine as_bipush (pc := 48) X dX1_copyFrom_48 (by decide) ?_
  refine as_copy (pc := 50) X aw_47 aw_49 aw_48 aw_20 (by decide) (by decide) dX1_copyFrom_50 ?_
  refine as_aload_n (pc := 53) X dX1_copyFrom_53 rfl ?_
  refine as_aload_n (pc := 54) X dX1_copyFrom_54 rfl ?_
  refine as_getI (ci := 1) (j := 4) (pc := 55) X (Cn := RX1) (Tf := TX1) (N := 14) rfl rfl (by decide) iw_X1 aw_55 rfl dX1_copyFrom_55 ?_
  refine as_putI (ci := 1) (j := 4) (pc := 58) X (Cn := RX1) (Tf := TX1) (N := 14) rfl rfl (by decide) iw_X1 aw_55 tyX1 tyX1_ok nmX1 rfl rfl (by decide +kernel) dX1_copyFrom_58 ?_
  refine as_aload_n (pc := 61) X dX1_copyFrom_61 rfl ?_
  refine as_getR (ci := 1) (j := 5) (pc := 62) X (Cn := RX1) (Tf := TX1) (N := 14) rfl rfl (by decide) iw_X1 aw_58 rfl dX1_copyFrom_62 ?_
  refine as_iconst (pc := 65) X dX1_copyFrom_65 (by decide) ?_
  refine as_aload_n (pc := 66) X dX1_copyFrom_66 rfl ?_
  refine as_getR (ci := 1) (j := 5) (pc := 67) X (Cn := RX1) (Tf := TX1) (N := 14) rfl rfl (by decide) iw_X1 aw_58 rfl dX1_copyFrom_67 ?_
  refine as_iconst (pc := 70) X dX1_copyFrom_70 (by decide) ?_
  refine as_bipush (pc := 71) X dX1_copyFrom_71 (by decide) ?_
  refine as_copy (pc := 73) X aw_47 aw_49 aw_48 aw_20 (by decide) (by decide) dX1_copyFrom_73 ?_
  refine as_aload_n (pc := 76) X dX1_copyFrom_76 rfl ?_
  refine as_getR (ci := 1) (j := 6) (pc := 77) X (Cn := RX1) (Tf := TX1) (N := 14) rfl rfl (by decide) iw_X1 aw_61 rfl dX1_copyFrom_77 ?_
  refine as_iconst (pc := 80) X dX1_copyFrom_80 (by decide) ?_
  refine as_aload_n (pc := 81) X dX1_copyFrom_81 rfl ?_
  refine as_getR (ci := 1) (j := 6) (pc := 82) X (Cn := RX1) (Tf := TX1) (N := 14) rfl rfl (by decide) iw_X1 aw_61 rfl dX1_copyFrom_82 ?_
  refine as_iconst (pc := 85) X dX1_copyFrom_85 (by decide) ?_
  refine as_bipush (pc := 86) X dX1_copyFrom_86 (by decide) ?_
  refine as_copy (pc := 88) X aw_47 aw_49 aw_48 aw_20 (by decide) (by decide) dX1_copyFrom_88 ?_
  refine as_aload_n (pc := 91) X dX1_copyFrom_91 rfl ?_
  refine as_getR (ci := 1) (j := 7) (pc := 92) X (Cn := RX1) (Tf := TX1) (N := 14) rfl rfl (by decide) iw_X1 aw_64 rfl dX1_copyFrom_92 ?_
  refine as_iconst (pc := 95) X dX1_copyFrom_95 (by decide) ?_
  refine as_aload_n (pc := 96) X dX1_copyFrom_96 rfl ?_
  refine as_getR (ci := 1) (j := 7) (pc := 97) X (Cn := RX1) (Tf := TX1) (N := 14) rfl rfl (by decide) iw_X1 aw_64 rfl dX1_copyFrom_97 ?_
  refine as_iconst (pc := 100) X dX1_copyFrom_100 (by decide) ?_
  refine as_bipush (pc := 101) X dX1_copyFrom_101 (by decide) ?_
  refine as_copy (pc := 103) X aw_47 aw_49 aw_48 aw_20 (by decide) (by decide) dX1_copyFrom_103 ?_
  refine as_aload_n (pc := 106) X dX1_copyFrom_106 rfl ?_
  refine as_getR (ci := 1) (j := 8) (pc := 107) X (Cn := RX1) (Tf := TX1) (N := 14) rfl rfl (by decide) iw_X1 aw_66 rfl dX1_copyFrom_107 ?_
  refine as_iconst (pc := 110) X dX1_copyFrom_110 (by decide) ?_
  refine as_aload_n (pc := 111) X dX1_copyFrom_111 rfl ?_
  refine as_getR (ci := 1) (j := 8) (pc := 112) X (Cn := RX1) (Tf := TX1) (N := 14) rfl rfl (by decide) iw_X1 aw_66 rfl dX1_copyFrom_112 ?_
  refine as_iconst (pc := 115) X dX1_copyFrom_115 (by decide) ?_
  refine as_bipush (pc := 116) X dX1_copyFrom_116 (by decide) ?_
  refine as_copy (pc := 118) X aw_47 aw_49 aw_48 aw_20 (by decide) (by decide) dX1_copyFrom_118 ?_
  refine as_aload_n (pc := 121) X dX1_copyFrom_121 rfl ?_
  refine as_aload_n (pc := 122) X dX1_copyFrom_122 rfl ?_
  refine as_getI (ci := 1) (j := 9) (pc := 123) X (Cn := RX1) (Tf := TX1) (N := 14) rfl rfl (by decide) iw_X1 aw_69 rfl dX1_copyFrom_123 ?_
  refine as_putI (ci := 1) (j := 9) (pc := 126) X (Cn := RX1) (Tf := TX1) (N := 14) rfl rfl (by decide) iw_X1 aw_69 tyX1 tyX1_ok nmX1 rfl rfl (by decide +kernel) dX1_copyFrom_126 ?_
  refine as_aload_n (pc := 129) X dX1_copyFrom_129 rfl ?_
  refine as_getR (ci := 1) (j := 10) (pc := 130) X (Cn := RX1) (Tf := TX1) (N := 14) rfl rfl (by decide) iw_X1 aw_72 rfl dX1_copyFrom_130 ?_
  refine as_iconst (pc := 133) X dX1_copyFrom_133 (by decide) ?_
  refine as_aload_n (pc := 134) X dX1_copyFrom_134 rfl ?_
  refine as_getR (ci := 1) (j := 10) (pc := 135) X (Cn := RX1) (Tf := TX1) (N := 14) rfl rfl (by decide) iw_X1 aw_72 rfl dX1_copyFrom_135 ?_
  refine as_iconst (pc := 138) X dX1_copyFrom_138 (by decide) ?_
  refine as_bipush (pc := 139) X dX1_copyFrom_139 (by decide) ?_
  refine as_copy (pc := 141) X aw_47 aw_49 aw_48 aw_20 (by decide) (by decide) dX1_copyFrom_141 ?_
  refine as_aload_n (pc := 144) X dX1_copyFrom_144 rfl ?_
  refine as_getR (ci := 1) (j := 11) (pc := 145) X (Cn := RX1) (Tf := TX1) (N := 14) rfl rfl (by decide) iw_X1 aw_75 rfl dX1_copyFrom_145 ?_
  refine as_iconst (pc := 148) X dX1_copyFrom_148 (by decide) ?_
  refine as_aload_n (pc := 149) X dX1_copyFrom_149 rfl ?_
  refine as_getR (ci := 1) (j := 11) (pc := 150) X (Cn := RX1) (Tf := TX1) (N := 14) rfl rfl (by decide) iw_X1 aw_75 rfl dX1_copyFrom_150 ?_
  refine as_iconst (pc := 153) X dX1_copyFrom_153 (by decide) ?_
  refine as_bipush (pc := 154) X dX1_copyFrom_154 (by decide) ?_
  refine as_copy (pc := 156) X aw_47 aw_49 aw_48 aw_20 (by decide) (by decide) dX1_copyFrom_156 ?_
  refine as_aload_n (pc := 159) X dX1_copyFrom_159 rfl ?_
  refine as_getR (ci := 1) (j := 12) (pc := 160) X (Cn := RX1) (Tf := TX1) (N := 14) rfl rfl (by decide) iw_X1 aw_78 rfl dX1_copyFrom_160 ?_
  refine as_iconst (pc := 163) X dX1_copyFrom_163 (by decide) ?_
  refine as_aload_n (pc := 164) X dX1_copyFrom_164 rfl ?_
  refine as_getR (ci := 1) (j := 12) (pc := 165) X (Cn := RX1) (Tf := TX1) (N := 14) rfl rfl (by decide) iw_X1 aw_78 rfl dX1_copyFrom_165 ?_
  refine as_iconst (pc := 168) X dX1_copyFrom_168 (by decide) ?_
  refine as_bipush (pc := 169) X dX1_copyFrom_169 (by decide) ?_
  refine as_copy (pc := 171) X aw_47 aw_49 aw_48 aw_20 (by decide) (by decide) dX1_copyFrom_171 ?_
  refine as_aload_n (pc := 174) X dX1_copyFrom_174 rfl ?_
  refine as_getR (ci := 1) (j := 13) (pc := 175) X (Cn := RX1) (Tf := TX1) (N := 14) rfl rfl (by decide) iw_X1 aw_81 rfl dX1_copyFrom_175 ?_
  refine as_iconst (pc := 178) X dX1_copyFrom_178 (by decide) ?_
  refine as_aload_n (pc := 179) X dX1_copyFrom_179 rfl ?_
  refine as_getR (ci := 1) (j := 13) (pc := 180) X (Cn := RX1) (Tf := TX1) (N := 14) rfl rfl (by decide) iw_X1 aw_81 rfl dX1_copyFrom_180 ?_
  refine as_iconst (pc := 183) X dX1_copyFrom_183 (by decide) ?_
  refine as_bipush (pc := 184) X dX1_copyFrom_184 (by decide) ?_
  refine as_copy (pc := 186) X aw_47 aw_49 aw_48 aw_20 (by decide) (by decide) dX1_copyFrom_186 ?_
  exact as_ret (pc := 189) X ⟨rfl, rfl⟩ rfl dX1_copyFrom_189
theorem s_X1_copyFrom {G : am_G} {bc bs : Nat} (X : am_Cx G cX1_copyFrom RX1 "copyFrom" rm_X1_copyFrom none 2 bc bs true) (h : Nat) : am_S G h (h_X1_copyFrom h) := by
  unfold h_X1_copyFrom
  split
  · next e => rw [e]; exact s_X1_copyFrom_0 X
  exact as_bad
theorem ct_X1_copyFrom : am_Ct yX1_copyFrom cX1_copyFrom 2 none rm_X1_copyFrom sp_X1_copyFrom := am_met (own := RX1) (nm := "copyFrom") (by decide) rfl rfl (Or.inl rfl) (fun _ _ => h_X1_copyFrom) (fun _ _ _ X => s_X1_copyFrom X) (fun _ _ _ _ h => h)
-- X0_keep
theorem dX0_keep_0 : decode cX0_keep 0 = .ok (.aload_n 0, 1) := by decide +kernel
theorem dX0_keep_1 : decode cX0_keep 1 = .ok (.getfield 9, 3) := by decide +kernel
theorem dX0_keep_4 : decode cX0_keep 4 = .ok (.iconst 4, 1) := by decide +kernel
theorem dX0_keep_5 : decode cX0_keep 5 = .ok (.if_icmp .ne 7, 3) := by decide +kernel
theorem dX0_keep_8 : decode cX0_keep 8 = .ok (.aload_n 0, 1) := by decide +kernel
theorem dX0_keep_9 : decode cX0_keep 9 = .ok (.invokevirtual 22, 3) := by decide +kernel
theorem dX0_keep_12 : decode cX0_keep 12 = .ok (.aload_n 0, 1) := by decide +kernel
theorem dX0_keep_13 : decode cX0_keep 13 = .ok (.getfield 17, 3) := by decide +kernel
theorem dX0_keep_16 : decode cX0_keep 16 = .ok (.aload_n 0, 1) := by decide +kernel
theorem dX0_keep_17 : decode cX0_keep 17 = .ok (.getfield 9, 3) := by decide +kernel
theorem dX0_keep_20 : decode cX0_keep 20 = .ok (.aaload, 1) := by decide +kernel
theorem dX0_keep_21 : decode cX0_keep 21 = .ok (.astore_n 2, 1) := by decide +kernel
theorem dX0_keep_22 : decode cX0_keep 22 = .ok (.aload_n 2, 1) := by decide +kernel
theorem dX0_keep_23 : decode cX0_keep 23 = .ok (.ifnull 18, 3) := by decide +kernel
theorem dX0_keep_26 : decode cX0_keep 26 = .ok (.aload_n 2, 1) := by decide +kernel
theorem dX0_keep_27 : decode cX0_keep 27 = .ok (.aload_n 1, 1) := by decide +kernel
theorem dX0_keep_28 : decode cX0_keep 28 = .ok (.invokevirtual 25, 3) := by decide +kernel
theorem dX0_keep_31 : decode cX0_keep 31 = .ok (.aload_n 0, 1) := by decide +kernel
theorem dX0_keep_32 : decode cX0_keep 32 = .ok (.dup, 1) := by decide +kernel
theorem dX0_keep_33 : decode cX0_keep 33 = .ok (.getfield 9, 3) := by decide +kernel
theorem dX0_keep_36 : decode cX0_keep 36 = .ok (.iconst 1, 1) := by decide +kernel
theorem dX0_keep_37 : decode cX0_keep 37 = .ok (.iadd, 1) := by decide +kernel
theorem dX0_keep_38 : decode cX0_keep 38 = .ok (.putfield 9, 3) := by decide +kernel
theorem dX0_keep_41 : decode cX0_keep 41 = .ok (.return_, 1) := by decide +kernel
def t_X0_keep_12 : am_T := tb_aload 0 <|
  tb_getR 0 1 <|
  tb_aload 0 <|
  tb_getI 0 0 <|
  tb_aald <|
  tb_astore 2 <|
  tb_aload 2 <|
  tb_nn <|
  tb_aload 2 <|
  tb_aload 1 <|
  tb_callV 1 sp_X1_copyFrom 2 <|
  tb_aload 0 <|
  tb_dup <|
  tb_getI 0 0 <|
  tb_const 1 <|
  tb_bin (fun x y => x + y) <|
  tb_putI 0 0 <|
  tb_ret
def t_X0_keep_0 : am_T := tb_aload 0 <|
  tb_getI 0 0 <|
  tb_const 4 <|
  tb_ic (fun x y => x ≠ y) (t_X0_keep_12) <|
  tb_aload 0 <|
  tb_callV 0 sp_X0_dropOldest 1 <|
  t_X0_keep_12
def h_X0_keep : am_Hd := fun h => if h = 0 then t_X0_keep_0 else tb_bad
theorem h_X0_keep_0 : h_X0_keep 0 = t_X0_keep_0 := rfl
def rm_X0_keep : Room := { frames := 2, cells := 0, slots := 0, locals := 47 }
def sp_X0_keep : am_sp := fun as M Q => as.length ≤ 3 ∧ am_OK h_X0_keep Q 0 (am_in 3 as) M
theorem s_X0_keep_12 {G : am_G} {bc bs : Nat} (X : am_Cx G cX0_keep RX0 "keep" rm_X0_keep none 3 bc bs true) : am_S G 12 (t_X0_keep_12) := by
  unfold t_X0_keep_12
  refine as_aload_n (pc := 12) X dX0_keep_12 rfl ?_
  refine as_getR (ci := 0) (j := 1) (pc := 13) X (Cn := RX0) (Tf := TX0) (N := 2) rfl rfl (by decide) iw_X0 aw_185 rfl dX0_keep_13 ?_
  refine as_aload_n (pc := 16) X dX0_keep_16 rfl ?_
  refine as_getI (ci := 0) (j := 0) (pc := 17) X (Cn := RX0) (Tf := TX0) (N := 2) rfl rfl (by decide) iw_X0 aw_183 rfl dX0_keep_17 ?_
  refine as_aald (pc := 20) X dX0_keep_20 ?_
  refine as_astore_n (pc := 21) X dX0_keep_21 rfl ?_ (by decide)
  refine as_aload_n (pc := 22) X dX0_keep_22 rfl ?_
  refine as_nn (pc := 23) X dX0_keep_23 ?_
  refine as_aload_n (pc := 26) X dX0_keep_26 rfl ?_
  refine as_aload_n (pc := 27) X dX0_keep_27 rfl ?_
  refine as_callV (ci := 1) (np := 1) (ix := 25) (pc := 28) X ct_X1_copyFrom (Cn := (RX1, TX1, 14)) rfl ⟨rfl, rfl⟩ aw_435 aw_436 aw_437 aw_438 aw_19 (by decide +kernel) (by decide) dX0_keep_28 ?_
  refine as_aload_n (pc := 31) X dX0_keep_31 rfl ?_
  refine as_dup (pc := 32) X dX0_keep_32 ?_
  refine as_getI (ci := 0) (j := 0) (pc := 33) X (Cn := RX0) (Tf := TX0) (N := 2) rfl rfl (by decide) iw_X0 aw_183 rfl dX0_keep_33 ?_
  refine as_iconst (pc := 36) X dX0_keep_36 (by decide) ?_
  refine as_iadd (pc := 37) X dX0_keep_37 ?_
  refine as_putI (ci := 0) (j := 0) (pc := 38) X (Cn := RX0) (Tf := TX0) (N := 2) rfl rfl (by decide) iw_X0 aw_183 tyX0 tyX0_ok nmX0 rfl rfl (by decide +kernel) dX0_keep_38 ?_
  exact as_ret (pc := 41) X ⟨rfl, rfl⟩ rfl dX0_keep_41
theorem s_X0_keep_0 {G : am_G} {bc bs : Nat} (X : am_Cx G cX0_keep RX0 "keep" rm_X0_keep none 3 bc bs true) : am_S G 0 (t_X0_keep_0) := by
  unfold t_X0_keep_0
  refine as_aload_n (pc := 0) X dX0_keep_0 rfl ?_
  refine as_getI (ci := 0) (j := 0) (pc := 1) X (Cn := RX0) (Tf := TX0) (N := 2) rfl rfl (by decide) iw_X0 aw_183 rfl dX0_keep_1 ?_
  refine as_iconst (pc := 4) X dX0_keep_4 (by decide) ?_
  refine as_ic_ne (pc := 5) X 12 dX0_keep_5 (by decide) (s_X0_keep_12 X) ?_
  refine as_aload_n (pc := 8) X dX0_keep_8 rfl ?_
  refine as_callV (ci := 0) (np := 0) (ix := 22) (pc := 9) X ct_X0_dropOldest (Cn := (RX0, TX0, 2)) rfl ⟨rfl, rfl⟩ aw_431 aw_433 aw_15 aw_434 aw_21 (by decide +kernel) (by decide) dX0_keep_9 ?_
  exact s_X0_keep_12 X
theorem s_X0_keep {G : am_G} {bc bs : Nat} (X : am_Cx G cX0_keep RX0 "keep" rm_X0_keep none 3 bc bs true) (h : Nat) : am_S G h (h_X0_keep h) := by
  unfold h_X0_keep
  split
  · next e => rw [e]; exact s_X0_keep_0 X
  exact as_bad
theorem ct_X0_keep : am_Ct yX0_keep cX0_keep 3 none rm_X0_keep sp_X0_keep := am_met (own := RX0) (nm := "keep") (by decide) rfl rfl (Or.inl rfl) (fun _ _ => h_X0_keep) (fun _ _ _ X => s_X0_keep X) (fun _ _ _ _ h => h)
-- X4_beginChange
theorem dX4_beginChange_0 : decode cX4_beginChange 0 = .ok (.aload_n 0, 1) := by decide +kernel
theorem dX4_beginChange_1 : decode cX4_beginChange 1 = .ok (.getfield 28, 3) := by decide +kernel
theorem dX4_beginChange_4 : decode cX4_beginChange 4 = .ok (.aload_n 0, 1) := by decide +kernel
theorem dX4_beginChange_5 : decode cX4_beginChange 5 = .ok (.getfield 20, 3) := by decide +kernel
theorem dX4_beginChange_8 : decode cX4_beginChange 8 = .ok (.invokevirtual 277, 3) := by decide +kernel
theorem dX4_beginChange_11 : decode cX4_beginChange 11 = .ok (.aload_n 0, 1) := by decide +kernel
theorem dX4_beginChange_12 : decode cX4_beginChange 12 = .ok (.iconst 1, 1) := by decide +kernel
theorem dX4_beginChange_13 : decode cX4_beginChange 13 = .ok (.putfield 21, 3) := by decide +kernel
theorem dX4_beginChange_16 : decode cX4_beginChange 16 = .ok (.return_, 1) := by decide +kernel
def t_X4_beginChange_0 : am_T := tb_aload 0 <|
  tb_getR 4 3 <|
  tb_aload 0 <|
  tb_getR 4 1 <|
  tb_callV 0 sp_X0_keep 2 <|
  tb_aload 0 <|
  tb_const 1 <|
  tb_putN .boolean 4 2 <|
  tb_ret
def h_X4_beginChange : am_Hd := fun h => if h = 0 then t_X4_beginChange_0 else tb_bad
theorem h_X4_beginChange_0 : h_X4_beginChange 0 = t_X4_beginChange_0 := rfl
def rm_X4_beginChange : Room := { frames := 3, cells := 0, slots := 0, locals := 69 }
def sp_X4_beginChange : am_sp := fun as M Q => as.length ≤ 1 ∧ am_OK h_X4_beginChange Q 0 (am_in 1 as) M
theorem s_X4_beginChange_0 {G : am_G} {bc bs : Nat} (X : am_Cx G cX4_beginChange RX4 "beginChange" rm_X4_beginChange none 1 bc bs true) : am_S G 0 (t_X4_beginChange_0) := by
  unfold t_X4_beginChange_0
  refine as_aload_n (pc := 0) X dX4_beginChange_0 rfl ?_
  refine as_getR (ci := 4) (j := 3) (pc := 1) X (Cn := RX4) (Tf := TX4) (N := 7) rfl rfl (by decide) iw_X4 aw_227 rfl dX4_beginChange_1 ?_
  refine as_aload_n (pc := 4) X dX4_beginChange_4 rfl ?_
  refine as_getR (ci := 4) (j := 1) (pc := 5) X (Cn := RX4) (Tf := TX4) (N := 7) rfl rfl (by decide) iw_X4 aw_225 rfl dX4_beginChange_5 ?_
  refine as_callV (ci := 0) (np := 1) (ix := 277) (pc := 8) X ct_X0_keep (Cn := (RX0, TX0, 2)) rfl ⟨rfl, rfl⟩ aw_427 aw_428 aw_429 aw_430 aw_21 (by decide +kernel) (by decide) dX4_beginChange_8 ?_
  refine as_aload_n (pc := 11) X dX4_beginChange_11 rfl ?_
  refine as_iconst (pc := 12) X dX4_beginChange_12 (by decide) ?_
  refine as_putN (ci := 4) (j := 2) (pc := 13) X (Cn := RX4) (Tf := TX4) (N := 7) rfl rfl (by decide) iw_X4 aw_226 tyX4 tyX4_ok nmX4 rfl (ty := .boolean) rfl (by decide +kernel) dX4_beginChange_13 ?_
  exact as_ret (pc := 16) X ⟨rfl, rfl⟩ rfl dX4_beginChange_16
theorem s_X4_beginChange {G : am_G} {bc bs : Nat} (X : am_Cx G cX4_beginChange RX4 "beginChange" rm_X4_beginChange none 1 bc bs true) (h : Nat) : am_S G h (h_X4_beginChange h) := by
  unfold h_X4_beginChange
  split
  · next e => rw [e]; exact s_X4_beginChange_0 X
  exact as_bad
theorem ct_X4_beginChange : am_Ct yX4_beginChange cX4_beginChange 1 none rm_X4_beginChange sp_X4_beginChange := am_met (own := RX4) (nm := "beginChange") (by decide) rfl rfl (Or.inl rfl) (fun _ _ => h_X4_beginChange) (fun _ _ _ X => s_X4_beginChange X) (fun _ _ _ _ h => h)
-- X1_addTake
theorem dX1_addTake_0 : decode cX1_addTake 0 = .ok (.aload_n 0, 1) := by decide +kernel
theorem dX1_addTake_1 : decode cX1_addTake 1 = .ok (.getfield 9, 3) := by decide +kernel
theorem dX1_addTake_4 : decode cX1_addTake 4 = .ok (.bipush 20, 2) := by decide +kernel
theorem dX1_addTake_6 : decode cX1_addTake 6 = .ok (.if_icmp .ge 43, 3) := by decide +kernel
theorem dX1_addTake_9 : decode cX1_addTake 9 = .ok (.aload_n 0, 1) := by decide +kernel
theorem dX1_addTake_10 : decode cX1_addTake 10 = .ok (.getfield 15, 3) := by decide +kernel
theorem dX1_addTake_13 : decode cX1_addTake 13 = .ok (.aload_n 0, 1) := by decide +kernel
theorem dX1_addTake_14 : decode cX1_addTake 14 = .ok (.getfield 9, 3) := by decide +kernel
theorem dX1_addTake_17 : decode cX1_addTake 17 = .ok (.iload_n 1, 1) := by decide +kernel
theorem dX1_addTake_18 : decode cX1_addTake 18 = .ok (.iastore, 1) := by decide +kernel
theorem dX1_addTake_19 : decode cX1_addTake 19 = .ok (.aload_n 0, 1) := by decide +kernel
theorem dX1_addTake_20 : decode cX1_addTake 20 = .ok (.getfield 19, 3) := by decide +kernel
theorem dX1_addTake_23 : decode cX1_addTake 23 = .ok (.aload_n 0, 1) := by decide +kernel
theorem dX1_addTake_24 : decode cX1_addTake 24 = .ok (.getfield 9, 3) := by decide +kernel
theorem dX1_addTake_27 : decode cX1_addTake 27 = .ok (.iload_n 2, 1) := by decide +kernel
theorem dX1_addTake_28 : decode cX1_addTake 28 = .ok (.iastore, 1) := by decide +kernel
theorem dX1_addTake_29 : decode cX1_addTake 29 = .ok (.aload_n 0, 1) := by decide +kernel
theorem dX1_addTake_30 : decode cX1_addTake 30 = .ok (.getfield 22, 3) := by decide +kernel
theorem dX1_addTake_33 : decode cX1_addTake 33 = .ok (.aload_n 0, 1) := by decide +kernel
theorem dX1_addTake_34 : decode cX1_addTake 34 = .ok (.getfield 9, 3) := by decide +kernel
theorem dX1_addTake_37 : decode cX1_addTake 37 = .ok (.iload_n 3, 1) := by decide +kernel
theorem dX1_addTake_38 : decode cX1_addTake 38 = .ok (.iastore, 1) := by decide +kernel
theorem dX1_addTake_39 : decode cX1_addTake 39 = .ok (.aload_n 0, 1) := by decide +kernel
theorem dX1_addTake_40 : decode cX1_addTake 40 = .ok (.dup, 1) := by decide +kernel
theorem dX1_addTake_41 : decode cX1_addTake 41 = .ok (.getfield 9, 3) := by decide +kernel
theorem dX1_addTake_44 : decode cX1_addTake 44 = .ok (.iconst 1, 1) := by decide +kernel
theorem dX1_addTake_45 : decode cX1_addTake 45 = .ok (.iadd, 1) := by decide +kernel
theorem dX1_addTake_46 : decode cX1_addTake 46 = .ok (.putfield 9, 3) := by decide +kernel
theorem dX1_addTake_49 : decode cX1_addTake 49 = .ok (.return_, 1) := by decide +kernel
def t_X1_addTake_49 : am_T := tb_ret
def t_X1_addTake_0 : am_T := tb_aload 0 <|
  tb_getI 1 0 <|
  tb_const 20 <|
  tb_ic (fun x y => y ≤ x) (t_X1_addTake_49) <|
  tb_aload 0 <|
  tb_getR 1 1 <|
  tb_aload 0 <|
  tb_getI 1 0 <|
  tb_iload 1 <|
  tb_iast <|
  tb_aload 0 <|
  tb_getR 1 2 <|
  tb_aload 0 <|
  tb_getI 1 0 <|
  tb_iload 2 <|
  tb_iast <|
  tb_aload 0 <|
  tb_getR 1 3 <|
  tb_aload 0 <|
  tb_getI 1 0 <|
  tb_iload 3 <|
  tb_iast <|
  tb_aload 0 <|
  tb_dup <|
  tb_getI 1 0 <|
  tb_const 1 <|
  tb_bin (fun x y => x + y) <|
  tb_putI 1 0 <|
  t_X1_addTake_49
def h_X1_addTake : am_Hd := fun h => if h = 0 then t_X1_addTake_0 else tb_bad
theorem h_X1_addTake_0 : h_X1_addTake 0 = t_X1_addTake_0 := rfl
def rm_X1_addTake : Room := { frames := 0, cells := 0, slots := 0, locals := 0 }
def sp_X1_addTake : am_sp := fun as M Q => as.length ≤ 4 ∧ am_OK h_X1_addTake Q 0 (am_in 4 as) M
theorem s_X1_addTake_49 {G : am_G} {bc bs : Nat} (X : am_Cx G cX1_addTake RX1 "addTake" rm_X1_addTake none 4 bc bs true) : am_S G 49 (t_X1_addTake_49) := by
  unfold t_X1_addTake_49
  exact as_ret (pc := 49) X ⟨rfl, rfl⟩ rfl dX1_addTake_49
theorem s_X1_addTake_0 {G : am_G} {bc bs : Nat} (X : am_Cx G cX1_addTake RX1 "addTake" rm_X1_addTake none 4 bc bs true) : am_S G 0 (t_X1_addTake_0) := by
  unfold t_X1_addTake_0
  refine as_aload_n (pc := 0) X dX1_addTake_0 rfl ?_
  refine as_getI (ci := 1) (j := 0) (pc := 1) X (Cn := RX1) (Tf := TX1) (N := 14) rfl rfl (by decide) iw_X1 aw_50 rfl dX1_addTake_1 ?_
  refine as_bipush (pc := 4) X dX1_addTake_4 (by decide) ?_
  refine as_ic_ge (pc := 6) X 49 dX1_addTake_6 (by decide) (s_X1_addTake_49 X) ?_
  refine as_aload_n (pc := 9) X dX1_addTake_9 rfl ?_
  refine as_getR (ci := 1) (j := 1) (pc := 10) X (Cn := RX1) (Tf := TX1) (N := 14) rfl rfl (by decide) iw_X1 aw_52 rfl dX1_addTake_10 ?_
  refine as_aload_n (pc := 13) X dX1_addTake_13 rfl ?_
  refine as_getI (ci := 1) (j := 0) (pc := 14) X (Cn := RX1) (Tf := TX1) (N := 14) rfl rfl (by decide) iw_X1 aw_50 rfl dX1_addTake_14 ?_
  refine as_iload_n (pc := 17) X dX1_addTake_17 rfl ?_
  refine as_iast (pc := 18) X dX1_addTake_18 ?_
  refine as_aload_n (pc := 19) X dX1_addTake_19 rfl ?_
  refine as_getR (ci := 1) (j := 2) (pc := 20) X (Cn := RX1) (Tf := TX1) (N := 14) rfl rfl (by decide) iw_X1 aw_53 rfl dX1_addTake_20 ?_
  refine as_aload_n (pc := 23) X dX1_addTake_23 rfl ?_
  refine as_getI (ci := 1) (j := 0) (pc := 24) X (Cn := RX1) (Tf := TX1) (N := 14) rfl rfl (by decide) iw_X1 aw_50 rfl dX1_addTake_24 ?_
  refine as_iload_n (pc := 27) X dX1_addTake_27 rfl ?_
  refine as_iast (pc := 28) X dX1_addTake_28 ?_
  refine as_aload_n (pc := 29) X dX1_addTake_29 rfl ?_
  refine as_getR (ci := 1) (j := 3) (pc := 30) X (Cn := RX1) (Tf := TX1) (N := 14) rfl rfl (by decide) iw_X1 aw_54 rfl dX1_addTake_30 ?_
  refine as_aload_n (pc := 33) X dX1_addTake_33 rfl ?_
  refine as_getI (ci := 1) (j := 0) (pc := 34) X (Cn := RX1) (Tf := TX1) (N := 14) rfl rfl (by decide) iw_X1 aw_50 rfl dX1_addTake_34 ?_
  refine as_iload_n (pc := 37) X dX1_addTake_37 rfl ?_
  refine as_iast (pc := 38) X dX1_addTake_38 ?_
  refine as_aload_n (pc := 39) X dX1_addTake_39 rfl ?_
  refine as_dup (pc := 40) X dX1_addTake_40 ?_
  refine as_getI (ci := 1) (j := 0) (pc := 41) X (Cn := RX1) (Tf := TX1) (N := 14) rfl rfl (by decide) iw_X1 aw_50 rfl dX1_addTake_41 ?_
  refine as_iconst (pc := 44) X dX1_addTake_44 (by decide) ?_
  refine as_iadd (pc := 45) X dX1_addTake_45 ?_
  refine as_putI (ci := 1) (j := 0) (pc := 46) X (Cn := RX1) (Tf := TX1) (N := 14) rfl rfl (by decide) iw_X1 aw_50 tyX1 tyX1_ok nmX1 rfl rfl (by decide +kernel) dX1_addTake_46 ?_
  exact s_X1_addTake_49 X
theorem s_X1_addTake {G : am_G} {bc bs : Nat} (X : am_Cx G cX1_addTake RX1 "addTake" rm_X1_addTake none 4 bc bs true) (h : Nat) : am_S G h (h_X1_addTake h) := by
  unfold h_X1_addTake
  split
  · next e => rw [e]; exact s_X1_addTake_0 X
  exact as_bad
theorem ct_X1_addTake : am_Ct yX1_addTake cX1_addTake 4 none rm_X1_addTake sp_X1_addTake := am_met (own := RX1) (nm := "addTake") (by decide) rfl rfl (Or.inl rfl) (fun _ _ => h_X1_addTake) (fun _ _ _ X => s_X1_addTake X) (fun _ _ _ _ h => h)
-- X4_takes
theorem dX4_takes_0 : decode cX4_takes 0 = .ok (.iload_n 1, 1) := by decide +kernel
theorem dX4_takes_1 : decode cX4_takes 1 = .ok (.invokestatic 45, 3) := by decide +kernel
theorem dX4_takes_4 : decode cX4_takes 4 = .ok (.ifCond .eq 17, 3) := by decide +kernel
theorem dX4_takes_7 : decode cX4_takes 7 = .ok (.iload_n 2, 1) := by decide +kernel
theorem dX4_takes_8 : decode cX4_takes 8 = .ok (.invokestatic 49, 3) := by decide +kernel
theorem dX4_takes_11 : decode cX4_takes 11 = .ok (.ifCond .eq 10, 3) := by decide +kernel
theorem dX4_takes_14 : decode cX4_takes 14 = .ok (.iload_n 3, 1) := by decide +kernel
theorem dX4_takes_15 : decode cX4_takes 15 = .ok (.invokestatic 52, 3) := by decide +kernel
theorem dX4_takes_18 : decode cX4_takes 18 = .ok (.ifCond .ne 5, 3) := by decide +kernel
theorem dX4_takes_21 : decode cX4_takes 21 = .ok (.iconst (-1), 1) := by decide +kernel
theorem dX4_takes_22 : decode cX4_takes 22 = .ok (.ireturn, 1) := by decide +kernel
theorem dX4_takes_23 : decode cX4_takes 23 = .ok (.aload_n 0, 1) := by decide +kernel
theorem dX4_takes_24 : decode cX4_takes 24 = .ok (.getfield 20, 3) := by decide +kernel
theorem dX4_takes_27 : decode cX4_takes 27 = .ok (.iload_n 2, 1) := by decide +kernel
theorem dX4_takes_28 : decode cX4_takes 28 = .ok (.iload_n 3, 1) := by decide +kernel
theorem dX4_takes_29 : decode cX4_takes 29 = .ok (.invokevirtual 55, 3) := by decide +kernel
theorem dX4_takes_32 : decode cX4_takes 32 = .ok (.istore 4, 2) := by decide +kernel
theorem dX4_takes_34 : decode cX4_takes 34 = .ok (.iload_n 3, 1) := by decide +kernel
theorem dX4_takes_35 : decode cX4_takes 35 = .ok (.aload_n 0, 1) := by decide +kernel
theorem dX4_takes_36 : decode cX4_takes 36 = .ok (.getfield 20, 3) := by decide +kernel
theorem dX4_takes_39 : decode cX4_takes 39 = .ok (.invokevirtual 61, 3) := by decide +kernel
theorem dX4_takes_42 : decode cX4_takes 42 = .ok (.if_icmp .lt 15, 3) := by decide +kernel
theorem dX4_takes_45 : decode cX4_takes 45 = .ok (.iload 4, 2) := by decide +kernel
theorem dX4_takes_47 : decode cX4_takes 47 = .ok (.iconst (-1), 1) := by decide +kernel
theorem dX4_takes_48 : decode cX4_takes 48 = .ok (.if_icmp .eq 12, 3) := by decide +kernel
theorem dX4_takes_51 : decode cX4_takes 51 = .ok (.iload 4, 2) := by decide +kernel
theorem dX4_takes_53 : decode cX4_takes 53 = .ok (.iload_n 1, 1) := by decide +kernel
theorem dX4_takes_54 : decode cX4_takes 54 = .ok (.if_icmp .eq 6, 3) := by decide +kernel
theorem dX4_takes_57 : decode cX4_takes 57 = .ok (.bipush (-2), 2) := by decide +kernel
theorem dX4_takes_59 : decode cX4_takes 59 = .ok (.ireturn, 1) := by decide +kernel
theorem dX4_takes_60 : decode cX4_takes 60 = .ok (.aload_n 0, 1) := by decide +kernel
theorem dX4_takes_61 : decode cX4_takes 61 = .ok (.getfield 20, 3) := by decide +kernel
theorem dX4_takes_64 : decode cX4_takes 64 = .ok (.getfield 65, 3) := by decide +kernel
theorem dX4_takes_67 : decode cX4_takes 67 = .ok (.bipush 20, 2) := by decide +kernel
theorem dX4_takes_69 : decode cX4_takes 69 = .ok (.if_icmp .lt 6, 3) := by decide +kernel
theorem dX4_takes_72 : decode cX4_takes 72 = .ok (.bipush (-3), 2) := by decide +kernel
theorem dX4_takes_74 : decode cX4_takes 74 = .ok (.ireturn, 1) := by decide +kernel
theorem dX4_takes_75 : decode cX4_takes 75 = .ok (.aload_n 0, 1) := by decide +kernel
theorem dX4_takes_76 : decode cX4_takes 76 = .ok (.invokevirtual 69, 3) := by decide +kernel
theorem dX4_takes_79 : decode cX4_takes 79 = .ok (.aload_n 0, 1) := by decide +kernel
theorem dX4_takes_80 : decode cX4_takes 80 = .ok (.getfield 20, 3) := by decide +kernel
theorem dX4_takes_83 : decode cX4_takes 83 = .ok (.iload_n 1, 1) := by decide +kernel
theorem dX4_takes_84 : decode cX4_takes 84 = .ok (.iload_n 2, 1) := by decide +kernel
theorem dX4_takes_85 : decode cX4_takes 85 = .ok (.iload_n 3, 1) := by decide +kernel
theorem dX4_takes_86 : decode cX4_takes 86 = .ok (.invokevirtual 72, 3) := by decide +kernel
theorem dX4_takes_89 : decode cX4_takes 89 = .ok (.aload_n 0, 1) := by decide +kernel
theorem dX4_takes_90 : decode cX4_takes 90 = .ok (.getfield 20, 3) := by decide +kernel
theorem dX4_takes_93 : decode cX4_takes 93 = .ok (.getfield 65, 3) := by decide +kernel
theorem dX4_takes_96 : decode cX4_takes 96 = .ok (.ireturn, 1) := by decide +kernel
def t_X4_takes_75 : am_T := tb_aload 0 <|
  tb_callV 4 sp_X4_beginChange 1 <|
  tb_aload 0 <|
  tb_getR 4 1 <|
  tb_iload 1 <|
  tb_iload 2 <|
  tb_iload 3 <|
  tb_callV 1 sp_X1_addTake 4 <|
  tb_aload 0 <|
  tb_getR 4 1 <|
  tb_getI 1 0 <|
  tb_iret
def t_X4_takes_60 : am_T := tb_aload 0 <|
  tb_getR 4 1 <|
  tb_getI 1 0 <|
  tb_const 20 <|
  tb_ic (fun x y => x < y) (t_X4_takes_75) <|
  tb_const (-3) <|
  tb_iret
def t_X4_takes_57 : am_T := tb_const (-2) <|
  tb_iret
def t_X4_takes_23 : am_T := tb_aload 0 <|
  tb_getR 4 1 <|
  tb_iload 2 <|
  tb_iload 3 <|
  tb_callV 1 sp_X1_holderAt 3 <|
  tb_istore 4 <|
  tb_iload 3 <|
  tb_aload 0 <|
  tb_getR 4 1 <|
  tb_callV 1 sp_X1_lastTakeTime 1 <|
  tb_ic (fun x y => x < y) (t_X4_takes_57) <|
  tb_iload 4 <|
  tb_const (-1) <|
  tb_ic (fun x y => x = y) (t_X4_takes_60) <|
  tb_iload 4 <|
  tb_iload 1 <|
  tb_ic (fun x y => x = y) (t_X4_takes_60) <|
  t_X4_takes_57
def t_X4_takes_21 : am_T := tb_const (-1) <|
  tb_iret
def t_X4_takes_0 : am_T := tb_iload 1 <|
  tb_callS sp_X4_isPerson 1 <|
  tb_if (fun x => x = 0) (t_X4_takes_21) <|
  tb_iload 2 <|
  tb_callS sp_X4_isName 1 <|
  tb_if (fun x => x = 0) (t_X4_takes_21) <|
  tb_iload 3 <|
  tb_callS sp_X4_isTime 1 <|
  tb_if (fun x => x ≠ 0) (t_X4_takes_23) <|
  t_X4_takes_21
def h_X4_takes : am_Hd := fun h => if h = 0 then t_X4_takes_0 else tb_bad
theorem h_X4_takes_0 : h_X4_takes 0 = t_X4_takes_0 := rfl
def rm_X4_takes : Room := { frames := 4, cells := 0, slots := 0, locals := 89 }
def sp_X4_takes : am_sp := fun as M Q => as.length ≤ 5 ∧ am_OK h_X4_takes Q 0 (am_in 5 as) M
theorem s_X4_takes_75 {G : am_G} {bc bs : Nat} (X : am_Cx G cX4_takes RX4 "takes" rm_X4_takes (some .int) 5 bc bs true) : am_S G 75 (t_X4_takes_75) := by
  unfold t_X4_takes_75
  refine as_aload_n (pc := 75) X dX4_takes_75 rfl ?_
  refine as_callV (ci := 4) (np := 0) (ix := 69) (pc := 76) X ct_X4_beginChange (Cn := (RX4, TX4, 7)) rfl ⟨rfl, rfl⟩ aw_423 aw_425 aw_14 aw_426 aw_17 (by decide +kernel) (by decide) dX4_takes_76 ?_
  refine as_aload_n (pc := 79) X dX4_takes_79 rfl ?_
  refine as_getR (ci := 4) (j := 1) (pc := 80) X (Cn := RX4) (Tf := TX4) (N := 7) rfl rfl (by decide) iw_X4 aw_225 rfl dX4_takes_80 ?_
  refine as_iload_n (pc := 83) X dX4_takes_83 rfl ?_
  refine as_iload_n (pc := 84) X dX4_takes_84 rfl ?_
  refine as_iload_n (pc := 85) X dX4_takes_85 rfl ?_
  refine as_callV (ci := 1) (np := 3) (ix := 72) (pc := 86) X ct_X1_addTake (Cn := (RX1, TX1, 14)) rfl ⟨rfl, rfl⟩ aw_439 aw_440 aw_441 aw_442 aw_19 (by decide +kernel) (by decide) dX4_takes_86 ?_
  refine as_aload_n (pc := 89) X dX4_takes_89 rfl ?_
  refine as_getR (ci := 4) (j := 1) (pc := 90) X (Cn := RX4) (Tf := TX4) (N := 7) rfl rfl (by decide) iw_X4 aw_225 rfl dX4_takes_90 ?_
  refine as_getI (ci := 1) (j := 0) (pc := 93) X (Cn := RX1) (Tf := TX1) (N := 14) rfl rfl (by decide) iw_X1 aw_51 rfl dX4_takes_93 ?_
  exact as_iret (pc := 96) X ⟨rfl, rfl⟩ rfl dX4_takes_96
theorem s_X4_takes_60 {G : am_G} {bc bs : Nat} (X : am_Cx G cX4_takes RX4 "takes" rm_X4_takes (some .int) 5 bc bs true) : am_S G 60 (t_X4_takes_60) := by
  unfold t_X4_takes_60
  refine as_aload_n (pc := 60) X dX4_takes_60 rfl ?_
  refine as_getR (ci := 4) (j := 1) (pc := 61) X (Cn := RX4) (Tf := TX4) (N := 7) rfl rfl (by decide) iw_X4 aw_225 rfl dX4_takes_61 ?_
  refine as_getI (ci := 1) (j := 0) (pc := 64) X (Cn := RX1) (Tf := TX1) (N := 14) rfl rfl (by decide) iw_X1 aw_51 rfl dX4_takes_64 ?_
  refine as_bipush (pc := 67) X dX4_takes_67 (by decide) ?_
  refine as_ic_lt (pc := 69) X 75 dX4_takes_69 (by decide) (s_X4_takes_75 X) ?_
  refine as_bipush (pc := 72) X dX4_takes_72 (by decide) ?_
  exact as_iret (pc := 74) X ⟨rfl, rfl⟩ rfl dX4_takes_74
theorem s_X4_takes_57 {G : am_G} {bc bs : Nat} (X : am_Cx G cX4_takes RX4 "takes" rm_X4_takes (some .int) 5 bc bs true) : am_S G 57 (t_X4_takes_57) := by
  unfold t_X4_takes_57
  refine as_bipush (pc := 57) X dX4_takes_57 (by decide) ?_
  exact as_iret (pc := 59) X ⟨rfl, rfl⟩ rfl dX4_takes_59
theorem s_X4_takes_23 {G : am_G} {bc bs : Nat} (X : am_Cx G cX4_takes RX4 "takes" rm_X4_takes (some .int) 5 bc bs true) : am_S G 23 (t_X4_takes_23) := by
  unfold t_X4_takes_23
  refine as_aload_n (pc := 23) X dX4_takes_23 rfl ?_
  refine as_getR (ci := 4) (j := 1) (pc := 24) X (Cn := RX4) (Tf := TX4) (N := 7) rfl rfl (by decide) iw_X4 aw_225 rfl dX4_takes_24 ?_
  refine as_iload_n (pc := 27) X dX4_takes_27 rfl ?_
  refine as_iload_n (pc := 28) X dX4_takes_28 rfl ?_
  refine as_callV (ci := 1) (np := 2) (ix := 55) (pc := 29) X ct_X1_holderAt (Cn := (RX1, TX1, 14)) rfl ⟨rfl, rfl⟩ aw_271 aw_272 aw_273 aw_274 aw_19 (by decide +kernel) (by decide) dX4_takes_29 ?_
  refine as_istore (pc := 32) X dX4_takes_32 ?_ (by decide)
  refine as_iload_n (pc := 34) X dX4_takes_34 rfl ?_
  refine as_aload_n (pc := 35) X dX4_takes_35 rfl ?_
  refine as_getR (ci := 4) (j := 1) (pc := 36) X (Cn := RX4) (Tf := TX4) (N := 7) rfl rfl (by decide) iw_X4 aw_225 rfl dX4_takes_36 ?_
  refine as_callV (ci := 1) (np := 0) (ix := 61) (pc := 39) X ct_X1_lastTakeTime (Cn := (RX1, TX1, 14)) rfl ⟨rfl, rfl⟩ aw_419 aw_420 aw_421 aw_422 aw_19 (by decide +kernel) (by decide) dX4_takes_39 ?_
  refine as_ic_lt (pc := 42) X 57 dX4_takes_42 (by decide) (s_X4_takes_57 X) ?_
  refine as_iload (pc := 45) X dX4_takes_45 ?_
  refine as_iconst (pc := 47) X dX4_takes_47 (by decide) ?_
  refine as_ic_eq (pc := 48) X 60 dX4_takes_48 (by decide) (s_X4_takes_60 X) ?_
  refine as_iload (pc := 51) X dX4_takes_51 ?_
  refine as_iload_n (pc := 53) X dX4_takes_53 rfl ?_
  refine as_ic_eq (pc := 54) X 60 dX4_takes_54 (by decide) (s_X4_takes_60 X) ?_
  exact s_X4_takes_57 X
theorem s_X4_takes_21 {G : am_G} {bc bs : Nat} (X : am_Cx G cX4_takes RX4 "takes" rm_X4_takes (some .int) 5 bc bs true) : am_S G 21 (t_X4_takes_21) := by
  unfold t_X4_takes_21
  refine as_iconst (pc := 21) X dX4_takes_21 (by decide) ?_
  exact as_iret (pc := 22) X ⟨rfl, rfl⟩ rfl dX4_takes_22
theorem s_X4_takes_0 {G : am_G} {bc bs : Nat} (X : am_Cx G cX4_takes RX4 "takes" rm_X4_takes (some .int) 5 bc bs true) : am_S G 0 (t_X4_takes_0) := by
  unfold t_X4_takes_0
  refine as_iload_n (pc := 0) X dX4_takes_0 rfl ?_
  refine as_callS (np := 1) (ix := 45) (pc := 1) X ct_X4_isPerson ⟨rfl, rfl⟩ aw_250 aw_251 aw_252 aw_17 (by decide +kernel) (by decide) dX4_takes_1 ?_
  refine as_if_eq (pc := 4) X 21 dX4_takes_4 (by decide) (s_X4_takes_21 X) ?_
  refine as_iload_n (pc := 7) X dX4_takes_7 rfl ?_
  refine as_callS (np := 1) (ix := 49) (pc := 8) X ct_X4_isName ⟨rfl, rfl⟩ aw_268 aw_269 aw_270 aw_17 (by decide +kernel) (by decide) dX4_takes_8 ?_
  refine as_if_eq (pc := 11) X 21 dX4_takes_11 (by decide) (s_X4_takes_21 X) ?_
  refine as_iload_n (pc := 14) X dX4_takes_14 rfl ?_
  refine as_callS (np := 1) (ix := 52) (pc := 15) X ct_X4_isTime ⟨rfl, rfl⟩ aw_253 aw_254 aw_255 aw_17 (by decide +kernel) (by decide) dX4_takes_15 ?_
  refine as_if_ne (pc := 18) X 23 dX4_takes_18 (by decide) (s_X4_takes_23 X) ?_
  exact s_X4_takes_21 X
theorem s_X4_takes {G : am_G} {bc bs : Nat} (X : am_Cx G cX4_takes RX4 "takes" rm_X4_takes (some .int) 5 bc bs true) (h : Nat) : am_S G h (h_X4_takes h) := by
  unfold h_X4_takes
  split
  · next e => rw [e]; exact s_X4_takes_0 X
  exact as_bad
theorem ct_X4_takes : am_Ct yX4_takes cX4_takes 5 (some .int) rm_X4_takes sp_X4_takes := am_met (own := RX4) (nm := "takes") (by decide) rfl rfl (Or.inr (Or.inl rfl)) (fun _ _ => h_X4_takes) (fun _ _ _ X => s_X4_takes X) (fun _ _ _ _ h => h)
-- X4_isSet
theorem dX4_isSet_0 : decode cX4_isSet 0 = .ok (.iload_n 0, 1) := by decide +kernel
theorem dX4_isSet_1 : decode cX4_isSet 1 = .ok (.ifCond .lt 14, 3) := by decide +kernel
theorem dX4_isSet_4 : decode cX4_isSet 4 = .ok (.iload_n 0, 1) := by decide +kernel
theorem dX4_isSet_5 : decode cX4_isSet 5 = .ok (.ldc_w 273, 3) := by decide +kernel
theorem dX4_isSet_8 : decode cX4_isSet 8 = .ok (.if_icmp .gt 7, 3) := by decide +kernel
theorem dX4_isSet_11 : decode cX4_isSet 11 = .ok (.iconst 1, 1) := by decide +kernel
theorem dX4_isSet_12 : decode cX4_isSet 12 = .ok (.goto 4, 3) := by decide +kernel
theorem dX4_isSet_15 : decode cX4_isSet 15 = .ok (.iconst 0, 1) := by decide +kernel
theorem dX4_isSet_16 : decode cX4_isSet 16 = .ok (.ireturn, 1) := by decide +kernel
def t_X4_isSet_16 : am_T := tb_zret
def t_X4_isSet_15 : am_T := tb_const 0 <|
  t_X4_isSet_16
def t_X4_isSet_0 : am_T := tb_iload 0 <|
  tb_if (fun x => x < 0) (t_X4_isSet_15) <|
  tb_iload 0 <|
  tb_const (65535) <|
  tb_ic (fun x y => y < x) (t_X4_isSet_15) <|
  tb_const 1 <|
  t_X4_isSet_16
def h_X4_isSet : am_Hd := fun h => if h = 0 then t_X4_isSet_0 else tb_bad
theorem h_X4_isSet_0 : h_X4_isSet 0 = t_X4_isSet_0 := rfl
def rm_X4_isSet : Room := { frames := 0, cells := 0, slots := 0, locals := 0 }
def sp_X4_isSet : am_sp := fun as M Q => as.length ≤ 1 ∧ am_OK h_X4_isSet Q 0 (am_in 1 as) M
theorem s_X4_isSet_16 {G : am_G} {bc bs : Nat} (X : am_Cx G cX4_isSet RX4 "isSet" rm_X4_isSet (some .boolean) 1 bc bs true) : am_S G 16 (t_X4_isSet_16) := by
  unfold t_X4_isSet_16
  exact as_zret (pc := 16) X ⟨rfl, rfl⟩ rfl dX4_isSet_16
theorem s_X4_isSet_15 {G : am_G} {bc bs : Nat} (X : am_Cx G cX4_isSet RX4 "isSet" rm_X4_isSet (some .boolean) 1 bc bs true) : am_S G 15 (t_X4_isSet_15) := by
  unfold t_X4_isSet_15
  refine as_iconst (pc := 15) X dX4_isSet_15 (by decide) ?_
  exact s_X4_isSet_16 X
theorem s_X4_isSet_0 {G : am_G} {bc bs : Nat} (X : am_Cx G cX4_isSet RX4 "isSet" rm_X4_isSet (some .boolean) 1 bc bs true) : am_S G 0 (t_X4_isSet_0) := by
  unfold t_X4_isSet_0
  refine as_iload_n (pc := 0) X dX4_isSet_0 rfl ?_
  refine as_if_lt (pc := 1) X 15 dX4_isSet_1 (by decide) (s_X4_isSet_15 X) ?_
  refine as_iload_n (pc := 4) X dX4_isSet_4 rfl ?_
  refine as_ldcw (pc := 5) X dX4_isSet_5 aw_451 ?_
  refine as_ic_gt (pc := 8) X 15 dX4_isSet_8 (by decide) (s_X4_isSet_15 X) ?_
  refine as_iconst (pc := 11) X dX4_isSet_11 (by decide) ?_
  exact as_goto (pc := 12) X 16 dX4_isSet_12 (by decide) (s_X4_isSet_16 X)
theorem s_X4_isSet {G : am_G} {bc bs : Nat} (X : am_Cx G cX4_isSet RX4 "isSet" rm_X4_isSet (some .boolean) 1 bc bs true) (h : Nat) : am_S G h (h_X4_isSet h) := by
  unfold h_X4_isSet
  split
  · next e => rw [e]; exact s_X4_isSet_0 X
  exact as_bad
theorem ct_X4_isSet : am_Ct yX4_isSet cX4_isSet 1 (some .boolean) rm_X4_isSet sp_X4_isSet := am_met (own := RX4) (nm := "isSet") (by decide) rfl rfl (Or.inr (Or.inr (Or.inl rfl))) (fun _ _ => h_X4_isSet) (fun _ _ _ X => s_X4_isSet X) (fun _ _ _ _ h => h)
-- X1_addLine
theorem dX1_addLine_0 : decode cX1_addLine 0 = .ok (.aload_n 0, 1) := by decide +kernel
theorem dX1_addLine_1 : decode cX1_addLine 1 = .ok (.getfield 25, 3) := by decide +kernel
theorem dX1_addLine_4 : decode cX1_addLine 4 = .ok (.bipush 30, 2) := by decide +kernel
theorem dX1_addLine_6 : decode cX1_addLine 6 = .ok (.if_icmp .ge 54, 3) := by decide +kernel
theorem dX1_addLine_9 : decode cX1_addLine 9 = .ok (.aload_n 0, 1) := by decide +kernel
theorem dX1_addLine_10 : decode cX1_addLine 10 = .ok (.getfield 28, 3) := by decide +kernel
theorem dX1_addLine_13 : decode cX1_addLine 13 = .ok (.aload_n 0, 1) := by decide +kernel
theorem dX1_addLine_14 : decode cX1_addLine 14 = .ok (.getfield 25, 3) := by decide +kernel
theorem dX1_addLine_17 : decode cX1_addLine 17 = .ok (.iload_n 1, 1) := by decide +kernel
theorem dX1_addLine_18 : decode cX1_addLine 18 = .ok (.iastore, 1) := by decide +kernel
theorem dX1_addLine_19 : decode cX1_addLine 19 = .ok (.aload_n 0, 1) := by decide +kernel
theorem dX1_addLine_20 : decode cX1_addLine 20 = .ok (.getfield 31, 3) := by decide +kernel
theorem dX1_addLine_23 : decode cX1_addLine 23 = .ok (.aload_n 0, 1) := by decide +kernel
theorem dX1_addLine_24 : decode cX1_addLine 24 = .ok (.getfield 25, 3) := by decide +kernel
theorem dX1_addLine_27 : decode cX1_addLine 27 = .ok (.iload_n 2, 1) := by decide +kernel
theorem dX1_addLine_28 : decode cX1_addLine 28 = .ok (.iastore, 1) := by decide +kernel
theorem dX1_addLine_29 : decode cX1_addLine 29 = .ok (.aload_n 0, 1) := by decide +kernel
theorem dX1_addLine_30 : decode cX1_addLine 30 = .ok (.getfield 34, 3) := by decide +kernel
theorem dX1_addLine_33 : decode cX1_addLine 33 = .ok (.aload_n 0, 1) := by decide +kernel
theorem dX1_addLine_34 : decode cX1_addLine 34 = .ok (.getfield 25, 3) := by decide +kernel
theorem dX1_addLine_37 : decode cX1_addLine 37 = .ok (.iload_n 3, 1) := by decide +kernel
theorem dX1_addLine_38 : decode cX1_addLine 38 = .ok (.iastore, 1) := by decide +kernel
theorem dX1_addLine_39 : decode cX1_addLine 39 = .ok (.aload_n 0, 1) := by decide +kernel
theorem dX1_addLine_40 : decode cX1_addLine 40 = .ok (.getfield 37, 3) := by decide +kernel
theorem dX1_addLine_43 : decode cX1_addLine 43 = .ok (.aload_n 0, 1) := by decide +kernel
theorem dX1_addLine_44 : decode cX1_addLine 44 = .ok (.getfield 25, 3) := by decide +kernel
theorem dX1_addLine_47 : decode cX1_addLine 47 = .ok (.iload 4, 2) := by decide +kernel
theorem dX1_addLine_49 : decode cX1_addLine 49 = .ok (.iastore, 1) := by decide +kernel
theorem dX1_addLine_50 : decode cX1_addLine 50 = .ok (.aload_n 0, 1) := by decide +kernel
theorem dX1_addLine_51 : decode cX1_addLine 51 = .ok (.dup, 1) := by decide +kernel
theorem dX1_addLine_52 : decode cX1_addLine 52 = .ok (.getfield 25, 3) := by decide +kernel
theorem dX1_addLine_55 : decode cX1_addLine 55 = .ok (.iconst 1, 1) := by decide +kernel
theorem dX1_addLine_56 : decode cX1_addLine 56 = .ok (.iadd, 1) := by decide +kernel
theorem dX1_addLine_57 : decode cX1_addLine 57 = .ok (.putfield 25, 3) := by decide +kernel
theorem dX1_addLine_60 : decode cX1_addLine 60 = .ok (.return_, 1) := by decide +kernel
def t_X1_addLine_60 : am_T := tb_ret
def t_X1_addLine_0 : am_T := tb_aload 0 <|
  tb_getI 1 4 <|
  tb_const 30 <|
  tb_ic (fun x y => y ≤ x) (t_X1_addLine_60) <|
  tb_aload 0 <|
  tb_getR 1 5 <|
  tb_aload 0 <|
  tb_getI 1 4 <|
  tb_iload 1 <|
  tb_iast <|
  tb_aload 0 <|
  tb_getR 1 6 <|
  tb_aload 0 <|
  tb_getI 1 4 <|
  tb_iload 2 <|
  tb_iast <|
  tb_aload 0 <|
  tb_getR 1 7 <|
  tb_aload 0 <|
  tb_getI 1 4 <|
  tb_iload 3 <|
  tb_iast <|
  tb_aload 0 <|
  tb_getR 1 8 <|
  tb_aload 0 <|
  tb_getI 1 4 <|
  tb_iload 4 <|
  tb_iast <|
  tb_aload 0 <|
  tb_dup <|
  tb_getI 1 4 <|
  tb_const 1 <|
  tb_bin (fun x y => x + y) <|
  tb_putI 1 4 <|
  t_X1_addLine_60
def h_X1_addLine : am_Hd := fun h => if h = 0 then t_X1_addLine_0 else tb_bad
theorem h_X1_addLine_0 : h_X1_addLine 0 = t_X1_addLine_0 := rfl
def rm_X1_addLine : Room := { frames := 0, cells := 0, slots := 0, locals := 0 }
def sp_X1_addLine : am_sp := fun as M Q => as.length ≤ 5 ∧ am_OK h_X1_addLine Q 0 (am_in 5 as) M
theorem s_X1_addLine_60 {G : am_G} {bc bs : Nat} (X : am_Cx G cX1_addLine RX1 "addLine" rm_X1_addLine none 5 bc bs true) : am_S G 60 (t_X1_addLine_60) := by
  unfold t_X1_addLine_60
  exact as_ret (pc := 60) X ⟨rfl, rfl⟩ rfl dX1_addLine_60
theorem s_X1_addLine_0 {G : am_G} {bc bs : Nat} (X : am_Cx G cX1_addLine RX1 "addLine" rm_X1_addLine none 5 bc bs true) : am_S G 0 (t_X1_addLine_0) := by
  unfold t_X1_addLine_0
  refine as_aload_n (pc := 0) X dX1_addLine_0 rfl ?_
  refine as_getI (ci := 1) (j := 4) (pc := 1) X (Cn := RX1) (Tf := TX1) (N := 14) rfl rfl (by decide) iw_X1 aw_55 rfl dX1_addLine_1 ?_
  refine as_bipush (pc := 4) X dX1_addLine_4 (by decide) ?_
  refine as_ic_ge (pc := 6) X 60 dX1_addLine_6 (by decide) (s_X1_addLine_60 X) ?_
  refine as_aload_n (pc := 9) X dX1_addLine_9 rfl ?_
  refine as_getR (ci := 1) (j := 5) (pc := 10) X (Cn := RX1) (Tf := TX1) (N := 14) rfl rfl (by decide) iw_X1 aw_58 rfl dX1_addLine_10 ?_
  refine as_aload_n (pc := 13) X dX1_addLine_13 rfl ?_
  refine as_getI (ci := 1) (j := 4) (pc := 14) X (Cn := RX1) (Tf := TX1) (N := 14) rfl rfl (by decide) iw_X1 aw_55 rfl dX1_addLine_14 ?_
  refine as_iload_n (pc := 17) X dX1_addLine_17 rfl ?_
  refine as_iast (pc := 18) X dX1_addLine_18 ?_
  refine as_aload_n (pc := 19) X dX1_addLine_19 rfl ?_
  refine as_getR (ci := 1) (j := 6) (pc := 20) X (Cn := RX1) (Tf := TX1) (N := 14) rfl rfl (by decide) iw_X1 aw_61 rfl dX1_addLine_20 ?_
  refine as_aload_n (pc := 23) X dX1_addLine_23 rfl ?_
  refine as_getI (ci := 1) (j := 4) (pc := 24) X (Cn := RX1) (Tf := TX1) (N := 14) rfl rfl (by decide) iw_X1 aw_55 rfl dX1_addLine_24 ?_
  refine as_iload_n (pc := 27) X dX1_addLine_27 rfl ?_
  refine as_iast (pc := 28) X dX1_addLine_28 ?_
  refine as_aload_n (pc := 29) X dX1_addLine_29 rfl ?_
  refine as_getR (ci := 1) (j := 7) (pc := 30) X (Cn := RX1) (Tf := TX1) (N := 14) rfl rfl (by decide) iw_X1 aw_64 rfl dX1_addLine_30 ?_
  refine as_aload_n (pc := 33) X dX1_addLine_33 rfl ?_
  refine as_getI (ci := 1) (j := 4) (pc := 34) X (Cn := RX1) (Tf := TX1) (N := 14) rfl rfl (by decide) iw_X1 aw_55 rfl dX1_addLine_34 ?_
  refine as_iload_n (pc := 37) X dX1_addLine_37 rfl ?_
  refine as_iast (pc := 38) X dX1_addLine_38 ?_
  refine as_aload_n (pc := 39) X dX1_addLine_39 rfl ?_
  refine as_getR (ci := 1) (j := 8) (pc := 40) X (Cn := RX1) (Tf := TX1) (N := 14) rfl rfl (by decide) iw_X1 aw_66 rfl dX1_addLine_40 ?_
  refine as_aload_n (pc := 43) X dX1_addLine_43 rfl ?_
  refine as_getI (ci := 1) (j := 4) (pc := 44) X (Cn := RX1) (Tf := TX1) (N := 14) rfl rfl (by decide) iw_X1 aw_55 rfl dX1_addLine_44 ?_
  refine as_iload (pc := 47) X dX1_addLine_47 ?_
  refine as_iast (pc := 49) X dX1_addLine_49 ?_
  refine as_aload_n (pc := 50) X dX1_addLine_50 rfl ?_
  refine as_dup (pc := 51) X dX1_addLine_51 ?_
  refine as_getI (ci := 1) (j := 4) (pc := 52) X (Cn := RX1) (Tf := TX1) (N := 14) rfl rfl (by decide) iw_X1 aw_55 rfl dX1_addLine_52 ?_
  refine as_iconst (pc := 55) X dX1_addLine_55 (by decide) ?_
  refine as_iadd (pc := 56) X dX1_addLine_56 ?_
  refine as_putI (ci := 1) (j := 4) (pc := 57) X (Cn := RX1) (Tf := TX1) (N := 14) rfl rfl (by decide) iw_X1 aw_55 tyX1 tyX1_ok nmX1 rfl rfl (by decide +kernel) dX1_addLine_57 ?_
  exact s_X1_addLine_60 X
theorem s_X1_addLine {G : am_G} {bc bs : Nat} (X : am_Cx G cX1_addLine RX1 "addLine" rm_X1_addLine none 5 bc bs true) (h : Nat) : am_S G h (h_X1_addLine h) := by
  unfold h_X1_addLine
  split
  · next e => rw [e]; exact s_X1_addLine_0 X
  exact as_bad
theorem ct_X1_addLine : am_Ct yX1_addLine cX1_addLine 5 none rm_X1_addLine sp_X1_addLine := am_met (own := RX1) (nm := "addLine") (by decide) rfl rfl (Or.inl rfl) (fun _ _ => h_X1_addLine) (fun _ _ _ X => s_X1_addLine X) (fun _ _ _ _ h => h)
-- X4_line
theorem dX4_line_0 : decode cX4_line 0 = .ok (.iload_n 1, 1) := by decide +kernel
theorem dX4_line_1 : decode cX4_line 1 = .ok (.invokestatic 52, 3) := by decide +kernel
theorem dX4_line_4 : decode cX4_line 4 = .ok (.ifCond .eq 25, 3) := by decide +kernel
theorem dX4_line_7 : decode cX4_line 7 = .ok (.iload_n 2, 1) := by decide +kernel
theorem dX4_line_8 : decode cX4_line 8 = .ok (.invokestatic 45, 3) := by decide +kernel
theorem dX4_line_11 : decode cX4_line 11 = .ok (.ifCond .eq 18, 3) := by decide +kernel
theorem dX4_line_14 : decode cX4_line 14 = .ok (.iload_n 3, 1) := by decide +kernel
theorem dX4_line_15 : decode cX4_line 15 = .ok (.invokestatic 83, 3) := by decide +kernel
theorem dX4_line_18 : decode cX4_line 18 = .ok (.ifCond .eq 11, 3) := by decide +kernel
theorem dX4_line_21 : decode cX4_line 21 = .ok (.iload 4, 2) := by decide +kernel
theorem dX4_line_23 : decode cX4_line 23 = .ok (.invokestatic 83, 3) := by decide +kernel
theorem dX4_line_26 : decode cX4_line 26 = .ok (.ifCond .ne 5, 3) := by decide +kernel
theorem dX4_line_29 : decode cX4_line 29 = .ok (.iconst (-1), 1) := by decide +kernel
theorem dX4_line_30 : decode cX4_line 30 = .ok (.ireturn, 1) := by decide +kernel
theorem dX4_line_31 : decode cX4_line 31 = .ok (.aload_n 0, 1) := by decide +kernel
theorem dX4_line_32 : decode cX4_line 32 = .ok (.getfield 20, 3) := by decide +kernel
theorem dX4_line_35 : decode cX4_line 35 = .ok (.getfield 86, 3) := by decide +kernel
theorem dX4_line_38 : decode cX4_line 38 = .ok (.bipush 30, 2) := by decide +kernel
theorem dX4_line_40 : decode cX4_line 40 = .ok (.if_icmp .lt 6, 3) := by decide +kernel
theorem dX4_line_43 : decode cX4_line 43 = .ok (.bipush (-3), 2) := by decide +kernel
theorem dX4_line_45 : decode cX4_line 45 = .ok (.ireturn, 1) := by decide +kernel
theorem dX4_line_46 : decode cX4_line 46 = .ok (.aload_n 0, 1) := by decide +kernel
theorem dX4_line_47 : decode cX4_line 47 = .ok (.invokevirtual 69, 3) := by decide +kernel
theorem dX4_line_50 : decode cX4_line 50 = .ok (.aload_n 0, 1) := by decide +kernel
theorem dX4_line_51 : decode cX4_line 51 = .ok (.getfield 20, 3) := by decide +kernel
theorem dX4_line_54 : decode cX4_line 54 = .ok (.iload_n 1, 1) := by decide +kernel
theorem dX4_line_55 : decode cX4_line 55 = .ok (.iload_n 2, 1) := by decide +kernel
theorem dX4_line_56 : decode cX4_line 56 = .ok (.iload_n 3, 1) := by decide +kernel
theorem dX4_line_57 : decode cX4_line 57 = .ok (.iload 4, 2) := by decide +kernel
theorem dX4_line_59 : decode cX4_line 59 = .ok (.invokevirtual 89, 3) := by decide +kernel
theorem dX4_line_62 : decode cX4_line 62 = .ok (.aload_n 0, 1) := by decide +kernel
theorem dX4_line_63 : decode cX4_line 63 = .ok (.getfield 20, 3) := by decide +kernel
theorem dX4_line_66 : decode cX4_line 66 = .ok (.getfield 86, 3) := by decide +kernel
theorem dX4_line_69 : decode cX4_line 69 = .ok (.iconst 1, 1) := by decide +kernel
theorem dX4_line_70 : decode cX4_line 70 = .ok (.isub, 1) := by decide +kernel
theorem dX4_line_71 : decode cX4_line 71 = .ok (.ireturn, 1) := by decide +kernel
def t_X4_line_46 : am_T := tb_aload 0 <|
  tb_callV 4 sp_X4_beginChange 1 <|
  tb_aload 0 <|
  tb_getR 4 1 <|
  tb_iload 1 <|
  tb_iload 2 <|
  tb_iload 3 <|
  tb_iload 4 <|
  tb_callV 1 sp_X1_addLine 5 <|
  tb_aload 0 <|
  tb_getR 4 1 <|
  tb_getI 1 4 <|
  tb_const 1 <|
  tb_bin (fun x y => x - y) <|
  tb_iret
def t_X4_line_31 : am_T := tb_aload 0 <|
  tb_getR 4 1 <|
  tb_getI 1 4 <|
  tb_const 30 <|
  tb_ic (fun x y => x < y) (t_X4_line_46) <|
  tb_const (-3) <|
  tb_iret
def t_X4_line_29 : am_T := tb_const (-1) <|
  tb_iret
def t_X4_line_0 : am_T := tb_iload 1 <|
  tb_callS sp_X4_isTime 1 <|
  tb_if (fun x => x = 0) (t_X4_line_29) <|
  tb_iload 2 <|
  tb_callS sp_X4_isPerson 1 <|
  tb_if (fun x => x = 0) (t_X4_line_29) <|
  tb_iload 3 <|
  tb_callS sp_X4_isSet 1 <|
  tb_if (fun x => x = 0) (t_X4_line_29) <|
  tb_iload 4 <|
  tb_callS sp_X4_isSet 1 <|
  tb_if (fun x => x ≠ 0) (t_X4_line_31) <|
  t_X4_line_29
def h_X4_line : am_Hd := fun h => if h = 0 then t_X4_line_0 else tb_bad
theorem h_X4_line_0 : h_X4_line 0 = t_X4_line_0 := rfl
def rm_X4_line : Room := { frames := 4, cells := 0, slots := 0, locals := 89 }
def sp_X4_line : am_sp := fun as M Q => as.length ≤ 5 ∧ am_OK h_X4_line Q 0 (am_in 5 as) M
theorem s_X4_line_46 {G : am_G} {bc bs : Nat} (X : am_Cx G cX4_line RX4 "line" rm_X4_line (some .int) 5 bc bs true) : am_S G 46 (t_X4_line_46) := by
  unfold t_X4_line_46
  refine as_aload_n (pc := 46) X dX4_line_46 rfl ?_
  refine as_callV (ci := 4) (np := 0) (ix := 69) (pc := 47) X ct_X4_beginChange (Cn := (RX4, TX4, 7)) rfl ⟨rfl, rfl⟩ aw_423 aw_425 aw_14 aw_426 aw_17 (by decide +kernel) (by decide) dX4_line_47 ?_
  refine as_aload_n (pc := 50) X dX4_line_50 rfl ?_
  refine as_getR (ci := 4) (j := 1) (pc := 51) X (Cn := RX4) (Tf := TX4) (N := 7) rfl rfl (by decide) iw_X4 aw_225 rfl dX4_line_51 ?_
  refine as_iload_n (pc := 54) X dX4_line_54 rfl ?_
  refine as_iload_n (pc := 55) X dX4_line_55 rfl ?_
  refine as_iload_n (pc := 56) X dX4_line_56 rfl ?_
  refine as_iload (pc := 57) X dX4_line_57 ?_
  refine as_callV (ci := 1) (np := 4) (ix := 89) (pc := 59) X ct_X1_addLine (Cn := (RX1, TX1, 14)) rfl ⟨rfl, rfl⟩ aw_452 aw_453 aw_454 aw_455 aw_19 (by decide +kernel) (by decide) dX4_line_59 ?_
  refine as_aload_n (pc := 62) X dX4_line_62 rfl ?_
  refine as_getR (ci := 4) (j := 1) (pc := 63) X (Cn := RX4) (Tf := TX4) (N := 7) rfl rfl (by decide) iw_X4 aw_225 rfl dX4_line_63 ?_
  refine as_getI (ci := 1) (j := 4) (pc := 66) X (Cn := RX1) (Tf := TX1) (N := 14) rfl rfl (by decide) iw_X1 aw_57 rfl dX4_line_66 ?_
  refine as_iconst (pc := 69) X dX4_line_69 (by decide) ?_
  refine as_isub (pc := 70) X dX4_line_70 ?_
  exact as_iret (pc := 71) X ⟨rfl, rfl⟩ rfl dX4_line_71
theorem s_X4_line_31 {G : am_G} {bc bs : Nat} (X : am_Cx G cX4_line RX4 "line" rm_X4_line (some .int) 5 bc bs true) : am_S G 31 (t_X4_line_31) := by
  unfold t_X4_line_31
  refine as_aload_n (pc := 31) X dX4_line_31 rfl ?_
  refine as_getR (ci := 4) (j := 1) (pc := 32) X (Cn := RX4) (Tf := TX4) (N := 7) rfl rfl (by decide) iw_X4 aw_225 rfl dX4_line_32 ?_
  refine as_getI (ci := 1) (j := 4) (pc := 35) X (Cn := RX1) (Tf := TX1) (N := 14) rfl rfl (by decide) iw_X1 aw_57 rfl dX4_line_35 ?_
  refine as_bipush (pc := 38) X dX4_line_38 (by decide) ?_
  refine as_ic_lt (pc := 40) X 46 dX4_line_40 (by decide) (s_X4_line_46 X) ?_
  refine as_bipush (pc := 43) X dX4_line_43 (by decide) ?_
  exact as_iret (pc := 45) X ⟨rfl, rfl⟩ rfl dX4_line_45
theorem s_X4_line_29 {G : am_G} {bc bs : Nat} (X : am_Cx G cX4_line RX4 "line" rm_X4_line (some .int) 5 bc bs true) : am_S G 29 (t_X4_line_29) := by
  unfold t_X4_line_29
  refine as_iconst (pc := 29) X dX4_line_29 (by decide) ?_
  exact as_iret (pc := 30) X ⟨rfl, rfl⟩ rfl dX4_line_30
theorem s_X4_line_0 {G : am_G} {bc bs : Nat} (X : am_Cx G cX4_line RX4 "line" rm_X4_line (some .int) 5 bc bs true) : am_S G 0 (t_X4_line_0) := by
  unfold t_X4_line_0
  refine as_iload_n (pc := 0) X dX4_line_0 rfl ?_
  refine as_callS (np := 1) (ix := 52) (pc := 1) X ct_X4_isTime ⟨rfl, rfl⟩ aw_253 aw_254 aw_255 aw_17 (by decide +kernel) (by decide) dX4_line_1 ?_
  refine as_if_eq (pc := 4) X 29 dX4_line_4 (by decide) (s_X4_line_29 X) ?_
  refine as_iload_n (pc := 7) X dX4_line_7 rfl ?_
  refine as_callS (np := 1) (ix := 45) (pc := 8) X ct_X4_isPerson ⟨rfl, rfl⟩ aw_250 aw_251 aw_252 aw_17 (by decide +kernel) (by decide) dX4_line_8 ?_
  refine as_if_eq (pc := 11) X 29 dX4_line_11 (by decide) (s_X4_line_29 X) ?_
  refine as_iload_n (pc := 14) X dX4_line_14 rfl ?_
  refine as_callS (np := 1) (ix := 83) (pc := 15) X ct_X4_isSet ⟨rfl, rfl⟩ aw_448 aw_449 aw_450 aw_17 (by decide +kernel) (by decide) dX4_line_15 ?_
  refine as_if_eq (pc := 18) X 29 dX4_line_18 (by decide) (s_X4_line_29 X) ?_
  refine as_iload (pc := 21) X dX4_line_21 ?_
  refine as_callS (np := 1) (ix := 83) (pc := 23) X ct_X4_isSet ⟨rfl, rfl⟩ aw_448 aw_449 aw_450 aw_17 (by decide +kernel) (by decide) dX4_line_23 ?_
  refine as_if_ne (pc := 26) X 31 dX4_line_26 (by decide) (s_X4_line_31 X) ?_
  exact s_X4_line_29 X
theorem s_X4_line {G : am_G} {bc bs : Nat} (X : am_Cx G cX4_line RX4 "line" rm_X4_line (some .int) 5 bc bs true) (h : Nat) : am_S G h (h_X4_line h) := by
  unfold h_X4_line
  split
  · next e => rw [e]; exact s_X4_line_0 X
  exact as_bad
theorem ct_X4_line : am_Ct yX4_line cX4_line 5 (some .int) rm_X4_line sp_X4_line := am_met (own := RX4) (nm := "line") (by decide) rfl rfl (Or.inr (Or.inl rfl)) (fun _ _ => h_X4_line) (fun _ _ _ X => s_X4_line X) (fun _ _ _ _ h => h)
-- L_drops
theorem dL_drops_0 : decode cL_drops 0 = .ok (.iconst 0, 1) := by decide +kernel
theorem dL_drops_1 : decode cL_drops 1 = .ok (.istore 4, 2) := by decide +kernel
theorem dL_drops_3 : decode cL_drops 3 = .ok (.iconst 0, 1) := by decide +kernel
theorem dL_drops_4 : decode cL_drops 4 = .ok (.istore 5, 2) := by decide +kernel
theorem dL_drops_6 : decode cL_drops 6 = .ok (.iload 5, 2) := by decide +kernel
theorem dL_drops_8 : decode cL_drops 8 = .ok (.aload_n 0, 1) := by decide +kernel
theorem dL_drops_9 : decode cL_drops 9 = .ok (.bipush 10, 2) := by decide +kernel
theorem dL_drops_11 : decode cL_drops 11 = .ok (.iaload, 1) := by decide +kernel
theorem dL_drops_12 : decode cL_drops 12 = .ok (.if_icmp .ge 139, 3) := by decide +kernel
theorem dL_drops_15 : decode cL_drops 15 = .ok (.aload_n 2, 1) := by decide +kernel
theorem dL_drops_16 : decode cL_drops 16 = .ok (.iconst 3, 1) := by decide +kernel
theorem dL_drops_17 : decode cL_drops 17 = .ok (.iload 5, 2) := by decide +kernel
theorem dL_drops_19 : decode cL_drops 19 = .ok (.imul, 1) := by decide +kernel
theorem dL_drops_20 : decode cL_drops 20 = .ok (.iconst 1, 1) := by decide +kernel
theorem dL_drops_21 : decode cL_drops 21 = .ok (.iadd, 1) := by decide +kernel
theorem dL_drops_22 : decode cL_drops 22 = .ok (.iaload, 1) := by decide +kernel
theorem dL_drops_23 : decode cL_drops 23 = .ok (.iload_n 3, 1) := by decide +kernel
theorem dL_drops_24 : decode cL_drops 24 = .ok (.if_icmp .eq 121, 3) := by decide +kernel
theorem dL_drops_27 : decode cL_drops 27 = .ok (.aload_n 2, 1) := by decide +kernel
theorem dL_drops_28 : decode cL_drops 28 = .ok (.iconst 3, 1) := by decide +kernel
theorem dL_drops_29 : decode cL_drops 29 = .ok (.iload 5, 2) := by decide +kernel
theorem dL_drops_31 : decode cL_drops 31 = .ok (.imul, 1) := by decide +kernel
theorem dL_drops_32 : decode cL_drops 32 = .ok (.iaload, 1) := by decide +kernel
theorem dL_drops_33 : decode cL_drops 33 = .ok (.ifCond .eq 15, 3) := by decide +kernel
theorem dL_drops_36 : decode cL_drops 36 = .ok (.aload_n 2, 1) := by decide +kernel
theorem dL_drops_37 : decode cL_drops 37 = .ok (.iconst 3, 1) := by decide +kernel
theorem dL_drops_38 : decode cL_drops 38 = .ok (.iload 5, 2) := by decide +kernel
theorem dL_drops_40 : decode cL_drops 40 = .ok (.imul, 1) := by decide +kernel
theorem dL_drops_41 : decode cL_drops 41 = .ok (.iconst 2, 1) := by decide +kernel
theorem dL_drops_42 : decode cL_drops 42 = .ok (.iadd, 1) := by decide +kernel
theorem dL_drops_43 : decode cL_drops 43 = .ok (.iaload, 1) := by decide +kernel
theorem dL_drops_44 : decode cL_drops 44 = .ok (.iload_n 3, 1) := by decide +kernel
theorem dL_drops_45 : decode cL_drops 45 = .ok (.if_icmp .eq 100, 3) := by decide +kernel
theorem dL_drops_48 : decode cL_drops 48 = .ok (.aload_n 2, 1) := by decide +kernel
theorem dL_drops_49 : decode cL_drops 49 = .ok (.iconst 3, 1) := by decide +kernel
theorem dL_drops_50 : decode cL_drops 50 = .ok (.iload 4, 2) := by decide +kernel
theorem dL_drops_52 : decode cL_drops 52 = .ok (.imul, 1) := by decide +kernel
theorem dL_drops_53 : decode cL_drops 53 = .ok (.aload_n 2, 1) := by decide +kernel
theorem dL_drops_54 : decode cL_drops 54 = .ok (.iconst 3, 1) := by decide +kernel
theorem dL_drops_55 : decode cL_drops 55 = .ok (.iload 5, 2) := by decide +kernel
theorem dL_drops_57 : decode cL_drops 57 = .ok (.imul, 1) := by decide +kernel
theorem dL_drops_58 : decode cL_drops 58 = .ok (.iaload, 1) := by decide +kernel
theorem dL_drops_59 : decode cL_drops 59 = .ok (.iastore, 1) := by decide +kernel
theorem dL_drops_60 : decode cL_drops 60 = .ok (.aload_n 2, 1) := by decide +kernel
theorem dL_drops_61 : decode cL_drops 61 = .ok (.iconst 3, 1) := by decide +kernel
theorem dL_drops_62 : decode cL_drops 62 = .ok (.iload 4, 2) := by decide +kernel
theorem dL_drops_64 : decode cL_drops 64 = .ok (.imul, 1) := by decide +kernel
theorem dL_drops_65 : decode cL_drops 65 = .ok (.iconst 1, 1) := by decide +kernel
theorem dL_drops_66 : decode cL_drops 66 = .ok (.iadd, 1) := by decide +kernel
theorem dL_drops_67 : decode cL_drops 67 = .ok (.aload_n 2, 1) := by decide +kernel
theorem dL_drops_68 : decode cL_drops 68 = .ok (.iconst 3, 1) := by decide +kernel
theorem dL_drops_69 : decode cL_drops 69 = .ok (.iload 5, 2) := by decide +kernel
theorem dL_drops_71 : decode cL_drops 71 = .ok (.imul, 1) := by decide +kernel
theorem dL_drops_72 : decode cL_drops 72 = .ok (.iconst 1, 1) := by decide +kernel
theorem dL_drops_73 : decode cL_drops 73 = .ok (.iadd, 1) := by decide +kernel
theorem dL_drops_74 : decode cL_drops 74 = .ok (.iaload, 1) := by decide +kernel
theorem dL_drops_75 : decode cL_drops 75 = .ok (.iload_n 3, 1) := by decide +kernel
theorem dL_drops_76 : decode cL_drops 76 = .ok (.if_icmp .le 16, 3) := by decide +kernel
theorem dL_drops_79 : decode cL_drops 79 = .ok (.aload_n 2, 1) := by decide +kernel
theorem dL_drops_80 : decode cL_drops 80 = .ok (.iconst 3, 1) := by decide +kernel
theorem dL_drops_81 : decode cL_drops 81 = .ok (.iload 5, 2) := by decide +kernel
theorem dL_drops_83 : decode cL_drops 83 = .ok (.imul, 1) := by decide +kernel
theorem dL_drops_84 : decode cL_drops 84 = .ok (.iconst 1, 1) := by decide +kernel
theorem dL_drops_85 : decode cL_drops 85 = .ok (.iadd, 1) := by decide +kernel
theorem dL_drops_86 : decode cL_drops 86 = .ok (.iaload, 1) := by decide +kernel
theorem dL_drops_87 : decode cL_drops 87 = .ok (.iconst 1, 1) := by decide +kernel
theorem dL_drops_88 : decode cL_drops 88 = .ok (.isub, 1) := by decide +kernel
theorem dL_drops_89 : decode cL_drops 89 = .ok (.goto 11, 3) := by decide +kernel
theorem dL_drops_92 : decode cL_drops 92 = .ok (.aload_n 2, 1) := by decide +kernel
theorem dL_drops_93 : decode cL_drops 93 = .ok (.iconst 3, 1) := by decide +kernel
theorem dL_drops_94 : decode cL_drops 94 = .ok (.iload 5, 2) := by decide +kernel
theorem dL_drops_96 : decode cL_drops 96 = .ok (.imul, 1) := by decide +kernel
theorem dL_drops_97 : decode cL_drops 97 = .ok (.iconst 1, 1) := by decide +kernel
theorem dL_drops_98 : decode cL_drops 98 = .ok (.iadd, 1) := by decide +kernel
theorem dL_drops_99 : decode cL_drops 99 = .ok (.iaload, 1) := by decide +kernel
theorem dL_drops_100 : decode cL_drops 100 = .ok (.iastore, 1) := by decide +kernel
theorem dL_drops_101 : decode cL_drops 101 = .ok (.aload_n 2, 1) := by decide +kernel
theorem dL_drops_102 : decode cL_drops 102 = .ok (.iconst 3, 1) := by decide +kernel
theorem dL_drops_103 : decode cL_drops 103 = .ok (.iload 4, 2) := by decide +kernel
theorem dL_drops_105 : decode cL_drops 105 = .ok (.imul, 1) := by decide +kernel
theorem dL_drops_106 : decode cL_drops 106 = .ok (.iconst 2, 1) := by decide +kernel
theorem dL_drops_107 : decode cL_drops 107 = .ok (.iadd, 1) := by decide +kernel
theorem dL_drops_108 : decode cL_drops 108 = .ok (.aload_n 2, 1) := by decide +kernel
theorem dL_drops_109 : decode cL_drops 109 = .ok (.iconst 3, 1) := by decide +kernel
theorem dL_drops_110 : decode cL_drops 110 = .ok (.iload 5, 2) := by decide +kernel
theorem dL_drops_112 : decode cL_drops 112 = .ok (.imul, 1) := by decide +kernel
theorem dL_drops_113 : decode cL_drops 113 = .ok (.iconst 2, 1) := by decide +kernel
theorem dL_drops_114 : decode cL_drops 114 = .ok (.iadd, 1) := by decide +kernel
theorem dL_drops_115 : decode cL_drops 115 = .ok (.iaload, 1) := by decide +kernel
theorem dL_drops_116 : decode cL_drops 116 = .ok (.iload_n 3, 1) := by decide +kernel
theorem dL_drops_117 : decode cL_drops 117 = .ok (.if_icmp .le 16, 3) := by decide +kernel
theorem dL_drops_120 : decode cL_drops 120 = .ok (.aload_n 2, 1) := by decide +kernel
theorem dL_drops_121 : decode cL_drops 121 = .ok (.iconst 3, 1) := by decide +kernel
theorem dL_drops_122 : decode cL_drops 122 = .ok (.iload 5, 2) := by decide +kernel
theorem dL_drops_124 : decode cL_drops 124 = .ok (.imul, 1) := by decide +kernel
theorem dL_drops_125 : decode cL_drops 125 = .ok (.iconst 2, 1) := by decide +kernel
theorem dL_drops_126 : decode cL_drops 126 = .ok (.iadd, 1) := by decide +kernel
theorem dL_drops_127 : decode cL_drops 127 = .ok (.iaload, 1) := by decide +kernel
theorem dL_drops_128 : decode cL_drops 128 = .ok (.iconst 1, 1) := by decide +kernel
theorem dL_drops_129 : decode cL_drops 129 = .ok (.isub, 1) := by decide +kernel
theorem dL_drops_130 : decode cL_drops 130 = .ok (.goto 11, 3) := by decide +kernel
theorem dL_drops_133 : decode cL_drops 133 = .ok (.aload_n 2, 1) := by decide +kernel
theorem dL_drops_134 : decode cL_drops 134 = .ok (.iconst 3, 1) := by decide +kernel
theorem dL_drops_135 : decode cL_drops 135 = .ok (.iload 5, 2) := by decide +kernel
theorem dL_drops_137 : decode cL_drops 137 = .ok (.imul, 1) := by decide +kernel
theorem dL_drops_138 : decode cL_drops 138 = .ok (.iconst 2, 1) := by decide +kernel
theorem dL_drops_139 : decode cL_drops 139 = .ok (.iadd, 1) := by decide +kernel
theorem dL_drops_140 : decode cL_drops 140 = .ok (.iaload, 1) := by decide +kernel
theorem dL_drops_141 : decode cL_drops 141 = .ok (.iastore, 1) := by decide +kernel
theorem dL_drops_142 : decode cL_drops 142 = .ok (.iinc 4 1, 3) := by decide +kernel
theorem dL_drops_145 : decode cL_drops 145 = .ok (.iinc 5 1, 3) := by decide +kernel
theorem dL_drops_148 : decode cL_drops 148 = .ok (.goto (-142), 3) := by decide +kernel
theorem dL_drops_151 : decode cL_drops 151 = .ok (.aload_n 0, 1) := by decide +kernel
theorem dL_drops_152 : decode cL_drops 152 = .ok (.bipush 10, 2) := by decide +kernel
theorem dL_drops_154 : decode cL_drops 154 = .ok (.iload 4, 2) := by decide +kernel
theorem dL_drops_156 : decode cL_drops 156 = .ok (.iastore, 1) := by decide +kernel
theorem dL_drops_157 : decode cL_drops 157 = .ok (.iconst 4, 1) := by decide +kernel
theorem dL_drops_158 : decode cL_drops 158 = .ok (.iload_n 3, 1) := by decide +kernel
theorem dL_drops_159 : decode cL_drops 159 = .ok (.imul, 1) := by decide +kernel
theorem dL_drops_160 : decode cL_drops 160 = .ok (.istore 5, 2) := by decide +kernel
theorem dL_drops_162 : decode cL_drops 162 = .ok (.iload 5, 2) := by decide +kernel
theorem dL_drops_164 : decode cL_drops 164 = .ok (.iconst 4, 1) := by decide +kernel
theorem dL_drops_165 : decode cL_drops 165 = .ok (.aload_n 0, 1) := by decide +kernel
theorem dL_drops_166 : decode cL_drops 166 = .ok (.bipush 9, 2) := by decide +kernel
theorem dL_drops_168 : decode cL_drops 168 = .ok (.iaload, 1) := by decide +kernel
theorem dL_drops_169 : decode cL_drops 169 = .ok (.imul, 1) := by decide +kernel
theorem dL_drops_170 : decode cL_drops 170 = .ok (.iconst 4, 1) := by decide +kernel
theorem dL_drops_171 : decode cL_drops 171 = .ok (.isub, 1) := by decide +kernel
theorem dL_drops_172 : decode cL_drops 172 = .ok (.if_icmp .ge 19, 3) := by decide +kernel
theorem dL_drops_175 : decode cL_drops 175 = .ok (.aload_n 1, 1) := by decide +kernel
theorem dL_drops_176 : decode cL_drops 176 = .ok (.iload 5, 2) := by decide +kernel
theorem dL_drops_178 : decode cL_drops 178 = .ok (.aload_n 1, 1) := by decide +kernel
theorem dL_drops_179 : decode cL_drops 179 = .ok (.iload 5, 2) := by decide +kernel
theorem dL_drops_181 : decode cL_drops 181 = .ok (.iconst 4, 1) := by decide +kernel
theorem dL_drops_182 : decode cL_drops 182 = .ok (.iadd, 1) := by decide +kernel
theorem dL_drops_183 : decode cL_drops 183 = .ok (.iaload, 1) := by decide +kernel
theorem dL_drops_184 : decode cL_drops 184 = .ok (.iastore, 1) := by decide +kernel
theorem dL_drops_185 : decode cL_drops 185 = .ok (.iinc 5 1, 3) := by decide +kernel
theorem dL_drops_188 : decode cL_drops 188 = .ok (.goto (-26), 3) := by decide +kernel
theorem dL_drops_191 : decode cL_drops 191 = .ok (.aload_n 0, 1) := by decide +kernel
theorem dL_drops_192 : decode cL_drops 192 = .ok (.bipush 9, 2) := by decide +kernel
theorem dL_drops_194 : decode cL_drops 194 = .ok (.dup2, 1) := by decide +kernel
theorem dL_drops_195 : decode cL_drops 195 = .ok (.iaload, 1) := by decide +kernel
theorem dL_drops_196 : decode cL_drops 196 = .ok (.iconst 1, 1) := by decide +kernel
theorem dL_drops_197 : decode cL_drops 197 = .ok (.isub, 1) := by decide +kernel
theorem dL_drops_198 : decode cL_drops 198 = .ok (.iastore, 1) := by decide +kernel
theorem dL_drops_199 : decode cL_drops 199 = .ok (.return_, 1) := by decide +kernel
def t_L_drops_191 : am_T := tb_aload 0 <|
  tb_const 9 <|
  tb_dup2 <|
  tb_iald <|
  tb_const 1 <|
  tb_bin (fun x y => x - y) <|
  tb_iast <|
  tb_ret
def t_L_drops_162 : am_T := tb_iload 5 <|
  tb_const 4 <|
  tb_aload 0 <|
  tb_const 9 <|
  tb_iald <|
  tb_bin (fun x y => x * y) <|
  tb_const 4 <|
  tb_bin (fun x y => x - y) <|
  tb_ic (fun x y => y ≤ x) (t_L_drops_191) <|
  tb_aload 1 <|
  tb_iload 5 <|
  tb_aload 1 <|
  tb_iload 5 <|
  tb_const 4 <|
  tb_bin (fun x y => x + y) <|
  tb_iald <|
  tb_iast <|
  tb_iinc 5 1 <|
  tb_head 162
def t_L_drops_151 : am_T := tb_aload 0 <|
  tb_const 10 <|
  tb_iload 4 <|
  tb_iast <|
  tb_const 4 <|
  tb_iload 3 <|
  tb_bin (fun x y => x * y) <|
  tb_istore 5 <|
  tb_head 162
def t_L_drops_145 : am_T := tb_iinc 5 1 <|
  tb_head 6
def t_L_drops_141 : am_T := tb_iast <|
  tb_iinc 4 1 <|
  t_L_drops_145
def t_L_drops_133 : am_T := tb_aload 2 <|
  tb_const 3 <|
  tb_iload 5 <|
  tb_bin (fun x y => x * y) <|
  tb_const 2 <|
  tb_bin (fun x y => x + y) <|
  tb_iald <|
  t_L_drops_141
def t_L_drops_100 : am_T := tb_iast <|
  tb_aload 2 <|
  tb_const 3 <|
  tb_iload 4 <|
  tb_bin (fun x y => x * y) <|
  tb_const 2 <|
  tb_bin (fun x y => x + y) <|
  tb_aload 2 <|
  tb_const 3 <|
  tb_iload 5 <|
  tb_bin (fun x y => x * y) <|
  tb_const 2 <|
  tb_bin (fun x y => x + y) <|
  tb_iald <|
  tb_iload 3 <|
  tb_ic (fun x y => x ≤ y) (t_L_drops_133) <|
  tb_aload 2 <|
  tb_const 3 <|
  tb_iload 5 <|
  tb_bin (fun x y => x * y) <|
  tb_const 2 <|
  tb_bin (fun x y => x + y) <|
  tb_iald <|
  tb_const 1 <|
  tb_bin (fun x y => x - y) <|
  t_L_drops_141
def t_L_drops_92 : am_T := tb_aload 2 <|
  tb_const 3 <|
  tb_iload 5 <|
  tb_bin (fun x y => x * y) <|
  tb_const 1 <|
  tb_bin (fun x y => x + y) <|
  tb_iald <|
  t_L_drops_100
def t_L_drops_48 : am_T := tb_aload 2 <|
  tb_const 3 <|
  tb_iload 4 <|
  tb_bin (fun x y => x * y) <|
  tb_aload 2 <|
  tb_const 3 <|
  tb_iload 5 <|
  tb_bin (fun x y => x * y) <|
  tb_iald <|
  tb_iast <|
  tb_aload 2 <|
  tb_const 3 <|
  tb_iload 4 <|
  tb_bin (fun x y => x * y) <|
  tb_const 1 <|
  tb_bin (fun x y => x + y) <|
  tb_aload 2 <|
  tb_const 3 <|
  tb_iload 5 <|
  tb_bin (fun x y => x * y) <|
  tb_const 1 <|
  tb_bin (fun x y => x + y) <|
  tb_iald <|
  tb_iload 3 <|
  tb_ic (fun x y => x ≤ y) (t_L_drops_92) <|
  tb_aload 2 <|
  tb_const 3 <|
  tb_iload 5 <|
  tb_bin (fun x y => x * y) <|
  tb_const 1 <|
  tb_bin (fun x y => x + y) <|
  tb_iald <|
  tb_const 1 <|
  tb_bin (fun x y => x - y) <|
  t_L_drops_100
def t_L_drops_6 : am_T := tb_iload 5 <|
  tb_aload 0 <|
  tb_const 10 <|
  tb_iald <|
  tb_ic (fun x y => y ≤ x) (t_L_drops_151) <|
  tb_aload 2 <|
  tb_const 3 <|
  tb_iload 5 <|
  tb_bin (fun x y => x * y) <|
  tb_const 1 <|
  tb_bin (fun x y => x + y) <|
  tb_iald <|
  tb_iload 3 <|
  tb_ic (fun x y => x = y) (t_L_drops_145) <|
  tb_aload 2 <|
  tb_const 3 <|
  tb_iload 5 <|
  tb_bin (fun x y => x * y) <|
  tb_iald <|
  tb_if (fun x => x = 0) (t_L_drops_48) <|
  tb_aload 2 <|
  tb_const 3 <|
  tb_iload 5 <|
  tb_bin (fun x y => x * y) <|
  tb_const 2 <|
  tb_bin (fun x y => x + y) <|
  tb_iald <|
  tb_iload 3 <|
  tb_ic (fun x y => x = y) (t_L_drops_145) <|
  t_L_drops_48
def t_L_drops_0 : am_T := tb_const 0 <|
  tb_istore 4 <|
  tb_const 0 <|
  tb_istore 5 <|
  tb_head 6
def h_L_drops : am_Hd := fun h => if h = 0 then t_L_drops_0 else if h = 6 then t_L_drops_6 else if h = 162 then t_L_drops_162 else tb_bad
theorem h_L_drops_0 : h_L_drops 0 = t_L_drops_0 := rfl
theorem h_L_drops_6 : h_L_drops 6 = t_L_drops_6 := rfl
theorem h_L_drops_162 : h_L_drops 162 = t_L_drops_162 := rfl
def rm_L_drops : Room := { frames := 0, cells := 0, slots := 0, locals := 0 }
def sp_L_drops : am_sp := fun as M Q => as.length ≤ 6 ∧ am_OK h_L_drops Q 0 (am_in 6 as) M
theorem s_L_drops_191 {G : am_G} {bc bs : Nat} (X : am_Cx G cL_drops RL "drops" rm_L_drops none 6 bc bs true) : am_S G 191 (t_L_drops_191) := by
  unfold t_L_drops_191
  refine as_aload_n (pc := 191) X dL_drops_191 rfl ?_
  refine as_bipush (pc := 192) X dL_drops_192 (by decide) ?_
  refine as_dup2 (pc := 194) X dL_drops_194 ?_
  refine as_iald (pc := 195) X dL_drops_195 ?_
  refine as_iconst (pc := 196) X dL_drops_196 (by decide) ?_
  refine as_isub (pc := 197) X dL_drops_197 ?_
  refine as_iast (pc := 198) X dL_drops_198 ?_
  exact as_ret (pc := 199) X ⟨rfl, rfl⟩ rfl dL_drops_199
theorem s_L_drops_162 {G : am_G} {bc bs : Nat} (X : am_Cx G cL_drops RL "drops" rm_L_drops none 6 bc bs true) : am_S G 162 (t_L_drops_162) := by
  unfold t_L_drops_162
  refine as_iload (pc := 162) X dL_drops_162 ?_
  refine as_iconst (pc := 164) X dL_drops_164 (by decide) ?_
  refine as_aload_n (pc := 165) X dL_drops_165 rfl ?_
  refine as_bipush (pc := 166) X dL_drops_166 (by decide) ?_
  refine as_iald (pc := 168) X dL_drops_168 ?_
  refine as_imul (pc := 169) X dL_drops_169 ?_
  refine as_iconst (pc := 170) X dL_drops_170 (by decide) ?_
  refine as_isub (pc := 171) X dL_drops_171 ?_
  refine as_ic_ge (pc := 172) X 191 dL_drops_172 (by decide) (s_L_drops_191 X) ?_
  refine as_aload_n (pc := 175) X dL_drops_175 rfl ?_
  refine as_iload (pc := 176) X dL_drops_176 ?_
  refine as_aload_n (pc := 178) X dL_drops_178 rfl ?_
  refine as_iload (pc := 179) X dL_drops_179 ?_
  refine as_iconst (pc := 181) X dL_drops_181 (by decide) ?_
  refine as_iadd (pc := 182) X dL_drops_182 ?_
  refine as_iald (pc := 183) X dL_drops_183 ?_
  refine as_iast (pc := 184) X dL_drops_184 ?_
  refine as_iinc (pc := 185) X dL_drops_185 (by decide) (by decide) ?_
  exact as_goto (pc := 188) X 162 dL_drops_188 (by decide) (as_head)
theorem s_L_drops_151 {G : am_G} {bc bs : Nat} (X : am_Cx G cL_drops RL "drops" rm_L_drops none 6 bc bs true) : am_S G 151 (t_L_drops_151) := by
  unfold t_L_drops_151
  refine as_aload_n (pc := 151) X dL_drops_151 rfl ?_
  refine as_bipush (pc := 152) X dL_drops_152 (by decide) ?_
  refine as_iload (pc := 154) X dL_drops_154 ?_
  refine as_iast (pc := 156) X dL_drops_156 ?_
  refine as_iconst (pc := 157) X dL_drops_157 (by decide) ?_
  refine as_iload_n (pc := 158) X dL_drops_158 rfl ?_
  refine as_imul (pc := 159) X dL_drops_159 ?_
  refine as_istore (pc := 160) X dL_drops_160 ?_ (by decide)
  exact as_head
theorem s_L_drops_145 {G : am_G} {bc bs : Nat} (X : am_Cx G cL_drops RL "drops" rm_L_drops none 6 bc bs true) : am_S G 145 (t_L_drops_145) := by
  unfold t_L_drops_145
  refine as_iinc (pc := 145) X dL_drops_145 (by decide) (by decide) ?_
  exact as_goto (pc := 148) X 6 dL_drops_148 (by decide) (as_head)
theorem s_L_drops_141 {G : am_G} {bc bs : Nat} (X : am_Cx G cL_drops RL "drops" rm_L_drops none 6 bc bs true) : am_S G 141 (t_L_drops_141) := by
  unfold t_L_drops_141
  refine as_iast (pc := 141) X dL_drops_141 ?_
  refine as_iinc (pc := 142) X dL_drops_142 (by decide) (by decide) ?_
  exact s_L_drops_145 X
theorem s_L_drops_133 {G : am_G} {bc bs : Nat} (X : am_Cx G cL_drops RL "drops" rm_L_drops none 6 bc bs true) : am_S G 133 (t_L_drops_133) := by
  unfold t_L_drops_133
  refine as_aload_n (pc := 133) X dL_drops_133 rfl ?_
  refine as_iconst (pc := 134) X dL_drops_134 (by decide) ?_
  refine as_iload (pc := 135) X dL_drops_135 ?_
  refine as_imul (pc := 137) X dL_drops_137 ?_
  refine as_iconst (pc := 138) X dL_drops_138 (by decide) ?_
  refine as_iadd (pc := 139) X dL_drops_139 ?_
  refine as_iald (pc := 140) X dL_drops_140 ?_
  exact s_L_drops_141 X
theorem s_L_drops_100 {G : am_G} {bc bs : Nat} (X : am_Cx G cL_drops RL "drops" rm_L_drops none 6 bc bs true) : am_S G 100 (t_L_drops_100) := by
  unfold t_L_drops_100
  refine as_iast (pc := 100) X dL_drops_100 ?_
  refine as_aload_n (pc := 101) X dL_drops_101 rfl ?_
  refine as_iconst (pc := 102) X dL_drops_102 (by decide) ?_
  refine as_iload (pc := 103) X dL_drops_103 ?_
  refine as_imul (pc := 105) X dL_drops_105 ?_
  refine as_iconst (pc := 106) X dL_drops_106 (by decide) ?_
  refine as_iadd (pc := 107) X dL_drops_107 ?_
  refine as_aload_n (pc := 108) X dL_drops_108 rfl ?_
  refine as_iconst (pc := 109) X dL_drops_109 (by decide) ?_
  refine as_iload (pc := 110) X dL_drops_110 ?_
  refine as_imul (pc := 112) X dL_drops_112 ?_
  refine as_iconst (pc := 113) X dL_drops_113 (by decide) ?_
  refine as_iadd (pc := 114) X dL_drops_114 ?_
  refine as_iald (pc := 115) X dL_drops_115 ?_
  refine as_iload_n (pc := 116) X dL_drops_116 rfl ?_
  refine as_ic_le (pc := 117) X 133 dL_drops_117 (by decide) (s_L_drops_133 X) ?_
  refine as_aload_n (pc := 120) X dL_drops_120 rfl ?_
  refine as_iconst (pc := 121) X dL_drops_121 (by decide) ?_
  refine as_iload (pc := 122) X dL_drops_122 ?_
  refine as_imul (pc := 124) X dL_drops_124 ?_
  refine as_iconst (pc := 125) X dL_drops_125 (by decide) ?_
  refine as_iadd (pc := 126) X dL_drops_126 ?_
  refine as_iald (pc := 127) X dL_drops_127 ?_
  refine as_iconst (pc := 128) X dL_drops_128 (by decide) ?_
  refine as_isub (pc := 129) X dL_drops_129 ?_
  exact as_goto (pc := 130) X 141 dL_drops_130 (by decide) (s_L_drops_141 X)
theorem s_L_drops_92 {G : am_G} {bc bs : Nat} (X : am_Cx G cL_drops RL "drops" rm_L_drops none 6 bc bs true) : am_S G 92 (t_L_drops_92) := by
  unfold t_L_drops_92
  refine as_aload_n (pc := 92) X dL_drops_92 rfl ?_
  refine as_iconst (pc := 93) X dL_drops_93 (by decide) ?_
  refine as_iload (pc := 94) X dL_drops_94 ?_
  refine as_imul (pc := 96) X dL_drops_96 ?_
  refine as_iconst (pc := 97) X dL_drops_97 (by decide) ?_
  refine as_iadd (pc := 98) X dL_drops_98 ?_
  refine as_iald (pc := 99) X dL_drops_99 ?_
  exact s_L_drops_100 X
theorem s_L_drops_48 {G : am_G} {bc bs : Nat} (X : am_Cx G cL_drops RL "drops" rm_L_drops none 6 bc bs true) : am_S G 48 (t_L_drops_48) := by
  unfold t_L_drops_48
  refine as_aload_n (pc := 48) X dL_drops_48 rfl ?_
  refine as_iconst (pc := 49) X dL_drops_49 (by decide) ?_
  refine as_iload (pc := 50) X dL_drops_50 ?_
  refine as_imul (pc := 52) X dL_drops_52 ?_
  refine as_aload_n (pc := 53) X dL_drops_53 rfl ?_
  refine as_iconst (pc := 54) X dL_drops_54 (by decide) ?_
  refine as_iload (pc := 55) X dL_drops_55 ?_
  refine as_imul (pc := 57) X dL_drops_57 ?_
  refine as_iald (pc := 58) X dL_drops_58 ?_
  refine as_iast (pc := 59) X dL_drops_59 ?_
  refine as_aload_n (pc := 60) X dL_drops_60 rfl ?_
  refine as_iconst (pc := 61) X dL_drops_61 (by decide) ?_
  refine as_iload (pc := 62) X dL_drops_62 ?_
  refine as_imul (pc := 64) X dL_drops_64 ?_
  refine as_iconst (pc := 65) X dL_drops_65 (by decide) ?_
  refine as_iadd (pc := 66) X dL_drops_66 ?_
  refine as_aload_n (pc := 67) X dL_drops_67 rfl ?_
  refine as_iconst (pc := 68) X dL_drops_68 (by decide) ?_
  refine as_iload (pc := 69) X dL_drops_69 ?_
  refine as_imul (pc := 71) X dL_drops_71 ?_
  refine as_iconst (pc := 72) X dL_drops_72 (by decide) ?_
  refine as_iadd (pc := 73) X dL_drops_73 ?_
  refine as_iald (pc := 74) X dL_drops_74 ?_
  refine as_iload_n (pc := 75) X dL_drops_75 rfl ?_
  refine as_ic_le (pc := 76) X 92 dL_drops_76 (by decide) (s_L_drops_92 X) ?_
  refine as_aload_n (pc := 79) X dL_drops_79 rfl ?_
  refine as_iconst (pc := 80) X dL_drops_80 (by decide) ?_
  refine as_iload (pc := 81) X dL_drops_81 ?_
  refine as_imul (pc := 83) X dL_drops_83 ?_
  refine as_iconst (pc := 84) X dL_drops_84 (by decide) ?_
  refine as_iadd (pc := 85) X dL_drops_85 ?_
  refine as_iald (pc := 86) X dL_drops_86 ?_
  refine as_iconst (pc := 87) X dL_drops_87 (by decide) ?_
  refine as_isub (pc := 88) X dL_drops_88 ?_
  exact as_goto (pc := 89) X 100 dL_drops_89 (by decide) (s_L_drops_100 X)
theorem s_L_drops_6 {G : am_G} {bc bs : Nat} (X : am_Cx G cL_drops RL "drops" rm_L_drops none 6 bc bs true) : am_S G 6 (t_L_drops_6) := by
  unfold t_L_drops_6
  refine as_iload (pc := 6) X dL_drops_6 ?_
  refine as_aload_n (pc := 8) X dL_drops_8 rfl ?_
  refine as_bipush (pc := 9) X dL_drops_9 (by decide) ?_
  refine as_iald (pc := 11) X dL_drops_11 ?_
  refine as_ic_ge (pc := 12) X 151 dL_drops_12 (by decide) (s_L_drops_151 X) ?_
  refine as_aload_n (pc := 15) X dL_drops_15 rfl ?_
  refine as_iconst (pc := 16) X dL_drops_16 (by decide) ?_
  refine as_iload (pc := 17) X dL_drops_17 ?_
  refine as_imul (pc := 19) X dL_drops_19 ?_
  refine as_iconst (pc := 20) X dL_drops_20 (by decide) ?_
  refine as_iadd (pc := 21) X dL_drops_21 ?_
  refine as_iald (pc := 22) X dL_drops_22 ?_
  refine as_iload_n (pc := 23) X dL_drops_23 rfl ?_
  refine as_ic_eq (pc := 24) X 145 dL_drops_24 (by decide) (s_L_drops_145 X) ?_
  refine as_aload_n (pc := 27) X dL_drops_27 rfl ?_
  refine as_iconst (pc := 28) X dL_drops_28 (by decide) ?_
  refine as_iload (pc := 29) X dL_drops_29 ?_
  refine as_imul (pc := 31) X dL_drops_31 ?_
  refine as_iald (pc := 32) X dL_drops_32 ?_
  refine as_if_eq (pc := 33) X 48 dL_drops_33 (by decide) (s_L_drops_48 X) ?_
  refine as_aload_n (pc := 36) X dL_drops_36 rfl ?_
  refine as_iconst (pc := 37) X dL_drops_37 (by decide) ?_
  refine as_iload (pc := 38) X dL_drops_38 ?_
  refine as_imul (pc := 40) X dL_drops_40 ?_
  refine as_iconst (pc := 41) X dL_drops_41 (by decide) ?_
  refine as_iadd (pc := 42) X dL_drops_42 ?_
  refine as_iald (pc := 43) X dL_drops_43 ?_
  refine as_iload_n (pc := 44) X dL_drops_44 rfl ?_
  refine as_ic_eq (pc := 45) X 145 dL_drops_45 (by decide) (s_L_drops_145 X) ?_
  exact s_L_drops_48 X
theorem s_L_drops_0 {G : am_G} {bc bs : Nat} (X : am_Cx G cL_drops RL "drops" rm_L_drops none 6 bc bs true) : am_S G 0 (t_L_drops_0) := by
  unfold t_L_drops_0
  refine as_iconst (pc := 0) X dL_drops_0 (by decide) ?_
  refine as_istore (pc := 1) X dL_drops_1 ?_ (by decide)
  refine as_iconst (pc := 3) X dL_drops_3 (by decide) ?_
  refine as_istore (pc := 4) X dL_drops_4 ?_ (by decide)
  exact as_head
theorem s_L_drops {G : am_G} {bc bs : Nat} (X : am_Cx G cL_drops RL "drops" rm_L_drops none 6 bc bs true) (h : Nat) : am_S G h (h_L_drops h) := by
  unfold h_L_drops
  split
  · next e => rw [e]; exact s_L_drops_0 X
  split
  · next e => rw [e]; exact s_L_drops_6 X
  split
  · next e => rw [e]; exact s_L_drops_162 X
  exact as_bad
theorem ct_L_drops : am_Ct yL_drops cL_drops 6 none rm_L_drops sp_L_drops := am_met (own := RL) (nm := "drops") (by decide) rfl rfl (Or.inl rfl) (fun _ _ => h_L_drops) (fun _ _ _ X => s_L_drops X) (fun _ _ _ _ h => h)
-- X1_removeFix
theorem dX1_removeFix_0 : decode cX1_removeFix 0 = .ok (.iload_n 1, 1) := by decide +kernel
theorem dX1_removeFix_1 : decode cX1_removeFix 1 = .ok (.iconst 1, 1) := by decide +kernel
theorem dX1_removeFix_2 : decode cX1_removeFix 2 = .ok (.iadd, 1) := by decide +kernel
theorem dX1_removeFix_3 : decode cX1_removeFix 3 = .ok (.istore_n 2, 1) := by decide +kernel
theorem dX1_removeFix_4 : decode cX1_removeFix 4 = .ok (.iload_n 2, 1) := by decide +kernel
theorem dX1_removeFix_5 : decode cX1_removeFix 5 = .ok (.aload_n 0, 1) := by decide +kernel
theorem dX1_removeFix_6 : decode cX1_removeFix 6 = .ok (.getfield 40, 3) := by decide +kernel
theorem dX1_removeFix_9 : decode cX1_removeFix 9 = .ok (.if_icmp .ge 51, 3) := by decide +kernel
theorem dX1_removeFix_12 : decode cX1_removeFix 12 = .ok (.aload_n 0, 1) := by decide +kernel
theorem dX1_removeFix_13 : decode cX1_removeFix 13 = .ok (.getfield 43, 3) := by decide +kernel
theorem dX1_removeFix_16 : decode cX1_removeFix 16 = .ok (.iload_n 2, 1) := by decide +kernel
theorem dX1_removeFix_17 : decode cX1_removeFix 17 = .ok (.iconst 1, 1) := by decide +kernel
theorem dX1_removeFix_18 : decode cX1_removeFix 18 = .ok (.isub, 1) := by decide +kernel
theorem dX1_removeFix_19 : decode cX1_removeFix 19 = .ok (.aload_n 0, 1) := by decide +kernel
theorem dX1_removeFix_20 : decode cX1_removeFix 20 = .ok (.getfield 43, 3) := by decide +kernel
theorem dX1_removeFix_23 : decode cX1_removeFix 23 = .ok (.iload_n 2, 1) := by decide +kernel
theorem dX1_removeFix_24 : decode cX1_removeFix 24 = .ok (.iaload, 1) := by decide +kernel
theorem dX1_removeFix_25 : decode cX1_removeFix 25 = .ok (.iastore, 1) := by decide +kernel
theorem dX1_removeFix_26 : decode cX1_removeFix 26 = .ok (.aload_n 0, 1) := by decide +kernel
theorem dX1_removeFix_27 : decode cX1_removeFix 27 = .ok (.getfield 46, 3) := by decide +kernel
theorem dX1_removeFix_30 : decode cX1_removeFix 30 = .ok (.iload_n 2, 1) := by decide +kernel
theorem dX1_removeFix_31 : decode cX1_removeFix 31 = .ok (.iconst 1, 1) := by decide +kernel
theorem dX1_removeFix_32 : decode cX1_removeFix 32 = .ok (.isub, 1) := by decide +kernel
theorem dX1_removeFix_33 : decode cX1_removeFix 33 = .ok (.aload_n 0, 1) := by decide +kernel
theorem dX1_removeFix_34 : decode cX1_removeFix 34 = .ok (.getfield 46, 3) := by decide +kernel
theorem dX1_removeFix_37 : decode cX1_removeFix 37 = .ok (.iload_n 2, 1) := by decide +kernel
theorem dX1_removeFix_38 : decode cX1_removeFix 38 = .ok (.iaload, 1) := by decide +kernel
theorem dX1_removeFix_39 : decode cX1_removeFix 39 = .ok (.iastore, 1) := by decide +kernel
theorem dX1_removeFix_40 : decode cX1_removeFix 40 = .ok (.aload_n 0, 1) := by decide +kernel
theorem dX1_removeFix_41 : decode cX1_removeFix 41 = .ok (.getfield 49, 3) := by decide +kernel
theorem dX1_removeFix_44 : decode cX1_removeFix 44 = .ok (.iload_n 2, 1) := by decide +kernel
theorem dX1_removeFix_45 : decode cX1_removeFix 45 = .ok (.iconst 1, 1) := by decide +kernel
theorem dX1_removeFix_46 : decode cX1_removeFix 46 = .ok (.isub, 1) := by decide +kernel
theorem dX1_removeFix_47 : decode cX1_removeFix 47 = .ok (.aload_n 0, 1) := by decide +kernel
theorem dX1_removeFix_48 : decode cX1_removeFix 48 = .ok (.getfield 49, 3) := by decide +kernel
theorem dX1_removeFix_51 : decode cX1_removeFix 51 = .ok (.iload_n 2, 1) := by decide +kernel
theorem dX1_removeFix_52 : decode cX1_removeFix 52 = .ok (.iaload, 1) := by decide +kernel
theorem dX1_removeFix_53 : decode cX1_removeFix 53 = .ok (.iastore, 1) := by decide +kernel
theorem dX1_removeFix_54 : decode cX1_removeFix 54 = .ok (.iinc 2 1, 3) := by decide +kernel
theorem dX1_removeFix_57 : decode cX1_removeFix 57 = .ok (.goto (-53), 3) := by decide +kernel
theorem dX1_removeFix_60 : decode cX1_removeFix 60 = .ok (.aload_n 0, 1) := by decide +kernel
theorem dX1_removeFix_61 : decode cX1_removeFix 61 = .ok (.dup, 1) := by decide +kernel
theorem dX1_removeFix_62 : decode cX1_removeFix 62 = .ok (.getfield 40, 3) := by decide +kernel
theorem dX1_removeFix_65 : decode cX1_removeFix 65 = .ok (.iconst 1, 1) := by decide +kernel
theorem dX1_removeFix_66 : decode cX1_removeFix 66 = .ok (.isub, 1) := by decide +kernel
theorem dX1_removeFix_67 : decode cX1_removeFix 67 = .ok (.putfield 40, 3) := by decide +kernel
theorem dX1_removeFix_70 : decode cX1_removeFix 70 = .ok (.return_, 1) := by decide +kernel
def t_X1_removeFix_60 : am_T := tb_aload 0 <|
  tb_dup <|
  tb_getI 1 9 <|
  tb_const 1 <|
  tb_bin (fun x y => x - y) <|
  tb_putI 1 9 <|
  tb_ret
def t_X1_removeFix_4 : am_T := tb_iload 2 <|
  tb_aload 0 <|
  tb_getI 1 9 <|
  tb_ic (fun x y => y ≤ x) (t_X1_removeFix_60) <|
  tb_aload 0 <|
  tb_getR 1 10 <|
  tb_iload 2 <|
  tb_const 1 <|
  tb_bin (fun x y => x - y) <|
  tb_aload 0 <|
  tb_getR 1 10 <|
  tb_iload 2 <|
  tb_iald <|
  tb_iast <|
  tb_aload 0 <|
  tb_getR 1 11 <|
  tb_iload 2 <|
  tb_const 1 <|
  tb_bin (fun x y => x - y) <|
  tb_aload 0 <|
  tb_getR 1 11 <|
  tb_iload 2 <|
  tb_iald <|
  tb_iast <|
  tb_aload 0 <|
  tb_getR 1 12 <|
  tb_iload 2 <|
  tb_const 1 <|
  tb_bin (fun x y => x - y) <|
  tb_aload 0 <|
  tb_getR 1 12 <|
  tb_iload 2 <|
  tb_iald <|
  tb_iast <|
  tb_iinc 2 1 <|
  tb_head 4
def t_X1_removeFix_0 : am_T := tb_iload 1 <|
  tb_const 1 <|
  tb_bin (fun x y => x + y) <|
  tb_istore 2 <|
  tb_head 4
def h_X1_removeFix : am_Hd := fun h => if h = 0 then t_X1_removeFix_0 else if h = 4 then t_X1_removeFix_4 else tb_bad
theorem h_X1_removeFix_0 : h_X1_removeFix 0 = t_X1_removeFix_0 := rfl
theorem h_X1_removeFix_4 : h_X1_removeFix 4 = t_X1_removeFix_4 := rfl
def rm_X1_removeFix : Room := { frames := 0, cells := 0, slots := 0, locals := 0 }
def sp_X1_removeFix : am_sp := fun as M Q => as.length ≤ 3 ∧ am_OK h_X1_removeFix Q 0 (am_in 3 as) M
theorem s_X1_removeFix_60 {G : am_G} {bc bs : Nat} (X : am_Cx G cX1_removeFix RX1 "removeFix" rm_X1_removeFix none 3 bc bs true) : am_S G 60 (t_X1_removeFix_60) := by
  unfold t_X1_removeFix_60
  refine as_aload_n (pc := 60) X dX1_removeFix_60 rfl ?_
  refine as_dup (pc := 61) X dX1_removeFix_61 ?_
  refine as_getI (ci := 1) (j := 9) (pc := 62) X (Cn := RX1) (Tf := TX1) (N := 14) rfl rfl (by decide) iw_X1 aw_69 rfl dX1_removeFix_62 ?_
  refine as_iconst (pc := 65) X dX1_removeFix_65 (by decide) ?_
  refine as_isub (pc := 66) X dX1_removeFix_66 ?_
  refine as_putI (ci := 1) (j := 9) (pc := 67) X (Cn := RX1) (Tf := TX1) (N := 14) rfl rfl (by decide) iw_X1 aw_69 tyX1 tyX1_ok nmX1 rfl rfl (by decide +kernel) dX1_removeFix_67 ?_
  exact as_ret (pc := 70) X ⟨rfl, rfl⟩ rfl dX1_removeFix_70
theorem s_X1_removeFix_4 {G : am_G} {bc bs : Nat} (X : am_Cx G cX1_removeFix RX1 "removeFix" rm_X1_removeFix none 3 bc bs true) : am_S G 4 (t_X1_removeFix_4) := by
  unfold t_X1_removeFix_4
  refine as_iload_n (pc := 4) X dX1_removeFix_4 rfl ?_
  refine as_aload_n (pc := 5) X dX1_removeFix_5 rfl ?_
  refine as_getI (ci := 1) (j := 9) (pc := 6) X (Cn := RX1) (Tf := TX1) (N := 14) rfl rfl (by decide) iw_X1 aw_69 rfl dX1_removeFix_6 ?_
  refine as_ic_ge (pc := 9) X 60 dX1_removeFix_9 (by decide) (s_X1_removeFix_60 X) ?_
  refine as_aload_n (pc := 12) X dX1_removeFix_12 rfl ?_
  refine as_getR (ci := 1) (j := 10) (pc := 13) X (Cn := RX1) (Tf := TX1) (N := 14) rfl rfl (by decide) iw_X1 aw_72 rfl dX1_removeFix_13 ?_
  refine as_iload_n (pc := 16) X dX1_removeFix_16 rfl ?_
  refine as_iconst (pc := 17) X dX1_removeFix_17 (by decide) ?_
  refine as_isub (pc := 18) X dX1_removeFix_18 ?_
  refine as_aload_n (pc := 19) X dX1_removeFix_19 rfl ?_
  refine as_getR (ci := 1) (j := 10) (pc := 20) X (Cn := RX1) (Tf := TX1) (N := 14) rfl rfl (by decide) iw_X1 aw_72 rfl dX1_removeFix_20 ?_
  refine as_iload_n (pc := 23) X dX1_removeFix_23 rfl ?_
  refine as_iald (pc := 24) X dX1_removeFix_24 ?_
  refine as_iast (pc := 25) X dX1_removeFix_25 ?_
  refine as_aload_n (pc := 26) X dX1_removeFix_26 rfl ?_
  refine as_getR (ci := 1) (j := 11) (pc := 27) X (Cn := RX1) (Tf := TX1) (N := 14) rfl rfl (by decide) iw_X1 aw_75 rfl dX1_removeFix_27 ?_
  refine as_iload_n (pc := 30) X dX1_removeFix_30 rfl ?_
  refine as_iconst (pc := 31) X dX1_removeFix_31 (by decide) ?_
  refine as_isub (pc := 32) X dX1_removeFix_32 ?_
  refine as_aload_n (pc := 33) X dX1_removeFix_33 rfl ?_
  refine as_getR (ci := 1) (j := 11) (pc := 34) X (Cn := RX1) (Tf := TX1) (N := 14) rfl rfl (by decide) iw_X1 aw_75 rfl dX1_removeFix_34 ?_
  refine as_iload_n (pc := 37) X dX1_removeFix_37 rfl ?_
  refine as_iald (pc := 38) X dX1_removeFix_38 ?_
  refine as_iast (pc := 39) X dX1_removeFix_39 ?_
  refine as_aload_n (pc := 40) X dX1_removeFix_40 rfl ?_
  refine as_getR (ci := 1) (j := 12) (pc := 41) X (Cn := RX1) (Tf := TX1) (N := 14) rfl rfl (by decide) iw_X1 aw_78 rfl dX1_removeFix_41 ?_
  refine as_iload_n (pc := 44) X dX1_removeFix_44 rfl ?_
  refine as_iconst (pc := 45) X dX1_removeFix_45 (by decide) ?_
  refine as_isub (pc := 46) X dX1_removeFix_46 ?_
  refine as_aload_n (pc := 47) X dX1_removeFix_47 rfl ?_
  refine as_getR (ci := 1) (j := 12) (pc := 48) X (Cn := RX1) (Tf := TX1) (N := 14) rfl rfl (by decide) iw_X1 aw_78 rfl dX1_removeFix_48 ?_
  refine as_iload_n (pc := 51) X dX1_removeFix_51 rfl ?_
  refine as_iald (pc := 52) X dX1_removeFix_52 ?_
  refine as_iast (pc := 53) X dX1_removeFix_53 ?_
  refine as_iinc (pc := 54) X dX1_removeFix_54 (by decide) (by decide) ?_
  exact as_goto (pc := 57) X 4 dX1_removeFix_57 (by decide) (as_head)
theorem s_X1_removeFix_0 {G : am_G} {bc bs : Nat} (X : am_Cx G cX1_removeFix RX1 "removeFix" rm_X1_removeFix none 3 bc bs true) : am_S G 0 (t_X1_removeFix_0) := by
  unfold t_X1_removeFix_0
  refine as_iload_n (pc := 0) X dX1_removeFix_0 rfl ?_
  refine as_iconst (pc := 1) X dX1_removeFix_1 (by decide) ?_
  refine as_iadd (pc := 2) X dX1_removeFix_2 ?_
  refine as_istore_n (pc := 3) X dX1_removeFix_3 rfl ?_ (by decide)
  exact as_head
theorem s_X1_removeFix {G : am_G} {bc bs : Nat} (X : am_Cx G cX1_removeFix RX1 "removeFix" rm_X1_removeFix none 3 bc bs true) (h : Nat) : am_S G h (h_X1_removeFix h) := by
  unfold h_X1_removeFix
  split
  · next e => rw [e]; exact s_X1_removeFix_0 X
  split
  · next e => rw [e]; exact s_X1_removeFix_4 X
  exact as_bad
theorem ct_X1_removeFix : am_Ct yX1_removeFix cX1_removeFix 3 none rm_X1_removeFix sp_X1_removeFix := am_met (own := RX1) (nm := "removeFix") (by decide) rfl rfl (Or.inl rfl) (fun _ _ => h_X1_removeFix) (fun _ _ _ X => s_X1_removeFix X) (fun _ _ _ _ h => h)
-- X1_numberWithout
theorem dX1_numberWithout_0 : decode cX1_numberWithout 0 = .ok (.iload_n 1, 1) := by decide +kernel
theorem dX1_numberWithout_1 : decode cX1_numberWithout 1 = .ok (.iload_n 0, 1) := by decide +kernel
theorem dX1_numberWithout_2 : decode cX1_numberWithout 2 = .ok (.if_icmp .le 9, 3) := by decide +kernel
theorem dX1_numberWithout_5 : decode cX1_numberWithout 5 = .ok (.iload_n 1, 1) := by decide +kernel
theorem dX1_numberWithout_6 : decode cX1_numberWithout 6 = .ok (.iconst 1, 1) := by decide +kernel
theorem dX1_numberWithout_7 : decode cX1_numberWithout 7 = .ok (.isub, 1) := by decide +kernel
theorem dX1_numberWithout_8 : decode cX1_numberWithout 8 = .ok (.goto 4, 3) := by decide +kernel
theorem dX1_numberWithout_11 : decode cX1_numberWithout 11 = .ok (.iload_n 1, 1) := by decide +kernel
theorem dX1_numberWithout_12 : decode cX1_numberWithout 12 = .ok (.ireturn, 1) := by decide +kernel
def t_X1_numberWithout_12 : am_T := tb_iret
def t_X1_numberWithout_11 : am_T := tb_iload 1 <|
  t_X1_numberWithout_12
def t_X1_numberWithout_0 : am_T := tb_iload 1 <|
  tb_iload 0 <|
  tb_ic (fun x y => x ≤ y) (t_X1_numberWithout_11) <|
  tb_iload 1 <|
  tb_const 1 <|
  tb_bin (fun x y => x - y) <|
  t_X1_numberWithout_12
def h_X1_numberWithout : am_Hd := fun h => if h = 0 then t_X1_numberWithout_0 else tb_bad
theorem h_X1_numberWithout_0 : h_X1_numberWithout 0 = t_X1_numberWithout_0 := rfl
def rm_X1_numberWithout : Room := { frames := 0, cells := 0, slots := 0, locals := 0 }
def sp_X1_numberWithout : am_sp := fun as M Q => as.length ≤ 2 ∧ am_OK h_X1_numberWithout Q 0 (am_in 2 as) M
theorem s_X1_numberWithout_12 {G : am_G} {bc bs : Nat} (X : am_Cx G cX1_numberWithout RX1 "numberWithout" rm_X1_numberWithout (some .int) 2 bc bs true) : am_S G 12 (t_X1_numberWithout_12) := by
  unfold t_X1_numberWithout_12
  exact as_iret (pc := 12) X ⟨rfl, rfl⟩ rfl dX1_numberWithout_12
theorem s_X1_numberWithout_11 {G : am_G} {bc bs : Nat} (X : am_Cx G cX1_numberWithout RX1 "numberWithout" rm_X1_numberWithout (some .int) 2 bc bs true) : am_S G 11 (t_X1_numberWithout_11) := by
  unfold t_X1_numberWithout_11
  refine as_iload_n (pc := 11) X dX1_numberWithout_11 rfl ?_
  exact s_X1_numberWithout_12 X
theorem s_X1_numberWithout_0 {G : am_G} {bc bs : Nat} (X : am_Cx G cX1_numberWithout RX1 "numberWithout" rm_X1_numberWithout (some .int) 2 bc bs true) : am_S G 0 (t_X1_numberWithout_0) := by
  unfold t_X1_numberWithout_0
  refine as_iload_n (pc := 0) X dX1_numberWithout_0 rfl ?_
  refine as_iload_n (pc := 1) X dX1_numberWithout_1 rfl ?_
  refine as_ic_le (pc := 2) X 11 dX1_numberWithout_2 (by decide) (s_X1_numberWithout_11 X) ?_
  refine as_iload_n (pc := 5) X dX1_numberWithout_5 rfl ?_
  refine as_iconst (pc := 6) X dX1_numberWithout_6 (by decide) ?_
  refine as_isub (pc := 7) X dX1_numberWithout_7 ?_
  exact as_goto (pc := 8) X 12 dX1_numberWithout_8 (by decide) (s_X1_numberWithout_12 X)
theorem s_X1_numberWithout {G : am_G} {bc bs : Nat} (X : am_Cx G cX1_numberWithout RX1 "numberWithout" rm_X1_numberWithout (some .int) 2 bc bs true) (h : Nat) : am_S G h (h_X1_numberWithout h) := by
  unfold h_X1_numberWithout
  split
  · next e => rw [e]; exact s_X1_numberWithout_0 X
  exact as_bad
theorem ct_X1_numberWithout : am_Ct yX1_numberWithout cX1_numberWithout 2 (some .int) rm_X1_numberWithout sp_X1_numberWithout := am_met (own := RX1) (nm := "numberWithout") (by decide) rfl rfl (Or.inr (Or.inl rfl)) (fun _ _ => h_X1_numberWithout) (fun _ _ _ X => s_X1_numberWithout X) (fun _ _ _ _ h => h)
