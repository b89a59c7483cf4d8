-- L_law
theorem dL_law_0 : decode cL_law 0 = .ok (.new 7, 3) := by decide +kernel
theorem dL_law_3 : decode cL_law 3 = .ok (.dup, 1) := by decide +kernel
theorem dL_law_4 : decode cL_law 4 = .ok (.invokespecial 9, 3) := by decide +kernel
theorem dL_law_7 : decode cL_law 7 = .ok (.astore_n 1, 1) := by decide +kernel
theorem dL_law_8 : decode cL_law 8 = .ok (.new 10, 3) := by decide +kernel
theorem dL_law_11 : decode cL_law 11 = .ok (.dup, 1) := by decide +kernel
theorem dL_law_12 : decode cL_law 12 = .ok (.invokespecial 12, 3) := by decide +kernel
theorem dL_law_15 : decode cL_law 15 = .ok (.astore_n 2, 1) := by decide +kernel
theorem dL_law_16 : decode cL_law 16 = .ok (.iconst 0, 1) := by decide +kernel
theorem dL_law_17 : decode cL_law 17 = .ok (.istore_n 3, 1) := by decide +kernel
theorem dL_law_18 : decode cL_law 18 = .ok (.iload_n 3, 1) := by decide +kernel
theorem dL_law_19 : decode cL_law 19 = .ok (.aload_n 0, 1) := by decide +kernel
theorem dL_law_20 : decode cL_law 20 = .ok (.arraylength, 1) := by decide +kernel
theorem dL_law_21 : decode cL_law 21 = .ok (.iconst 5, 1) := by decide +kernel
theorem dL_law_22 : decode cL_law 22 = .ok (.isub, 1) := by decide +kernel
theorem dL_law_23 : decode cL_law 23 = .ok (.if_icmp .gt 947, 3) := by decide +kernel
theorem dL_law_26 : decode cL_law 26 = .ok (.aload_n 0, 1) := by decide +kernel
theorem dL_law_27 : decode cL_law 27 = .ok (.iload_n 3, 1) := by decide +kernel
theorem dL_law_28 : decode cL_law 28 = .ok (.iaload, 1) := by decide +kernel
theorem dL_law_29 : decode cL_law 29 = .ok (.bipush 31, 2) := by decide +kernel
theorem dL_law_31 : decode cL_law 31 = .ok (.iand, 1) := by decide +kernel
theorem dL_law_32 : decode cL_law 32 = .ok (.tableswitch 932 0 27 #[128, 171, 204, 237, 290, 313, 346, 369, 402, 435, 468, 491, 504, 547, 570, 603, 636, 669, 692, 725, 748, 771, 804, 827, 860, 883, 896, 919], 128) := by decide +kernel
theorem dL_law_160 : decode cL_law 160 = .ok (.aload_n 1, 1) := by decide +kernel
theorem dL_law_161 : decode cL_law 161 = .ok (.aload_n 0, 1) := by decide +kernel
theorem dL_law_162 : decode cL_law 162 = .ok (.iload_n 3, 1) := by decide +kernel
theorem dL_law_163 : decode cL_law 163 = .ok (.iconst 1, 1) := by decide +kernel
theorem dL_law_164 : decode cL_law 164 = .ok (.iadd, 1) := by decide +kernel
theorem dL_law_165 : decode cL_law 165 = .ok (.iaload, 1) := by decide +kernel
theorem dL_law_166 : decode cL_law 166 = .ok (.aload_n 0, 1) := by decide +kernel
theorem dL_law_167 : decode cL_law 167 = .ok (.iload_n 3, 1) := by decide +kernel
theorem dL_law_168 : decode cL_law 168 = .ok (.iconst 2, 1) := by decide +kernel
theorem dL_law_169 : decode cL_law 169 = .ok (.iadd, 1) := by decide +kernel
theorem dL_law_170 : decode cL_law 170 = .ok (.iaload, 1) := by decide +kernel
theorem dL_law_171 : decode cL_law 171 = .ok (.aload_n 0, 1) := by decide +kernel
theorem dL_law_172 : decode cL_law 172 = .ok (.iload_n 3, 1) := by decide +kernel
theorem dL_law_173 : decode cL_law 173 = .ok (.iconst 3, 1) := by decide +kernel
theorem dL_law_174 : decode cL_law 174 = .ok (.iadd, 1) := by decide +kernel
theorem dL_law_175 : decode cL_law 175 = .ok (.iaload, 1) := by decide +kernel
theorem dL_law_176 : decode cL_law 176 = .ok (.invokevirtual 13, 3) := by decide +kernel
theorem dL_law_179 : decode cL_law 179 = .ok (.aload_n 2, 1) := by decide +kernel
theorem dL_law_180 : decode cL_law 180 = .ok (.aload_n 0, 1) := by decide +kernel
theorem dL_law_181 : decode cL_law 181 = .ok (.iload_n 3, 1) := by decide +kernel
theorem dL_law_182 : decode cL_law 182 = .ok (.iconst 1, 1) := by decide +kernel
theorem dL_law_183 : decode cL_law 183 = .ok (.iadd, 1) := by decide +kernel
theorem dL_law_184 : decode cL_law 184 = .ok (.iaload, 1) := by decide +kernel
theorem dL_law_185 : decode cL_law 185 = .ok (.aload_n 0, 1) := by decide +kernel
theorem dL_law_186 : decode cL_law 186 = .ok (.iload_n 3, 1) := by decide +kernel
theorem dL_law_187 : decode cL_law 187 = .ok (.iconst 2, 1) := by decide +kernel
theorem dL_law_188 : decode cL_law 188 = .ok (.iadd, 1) := by decide +kernel
theorem dL_law_189 : decode cL_law 189 = .ok (.iaload, 1) := by decide +kernel
theorem dL_law_190 : decode cL_law 190 = .ok (.aload_n 0, 1) := by decide +kernel
theorem dL_law_191 : decode cL_law 191 = .ok (.iload_n 3, 1) := by decide +kernel
theorem dL_law_192 : decode cL_law 192 = .ok (.iconst 3, 1) := by decide +kernel
theorem dL_law_193 : decode cL_law 193 = .ok (.iadd, 1) := by decide +kernel
theorem dL_law_194 : decode cL_law 194 = .ok (.iaload, 1) := by decide +kernel
theorem dL_law_195 : decode cL_law 195 = .ok (.invokevirtual 17, 3) := by decide +kernel
theorem dL_law_198 : decode cL_law 198 = .ok (.if_icmp .eq 766, 3) := by decide +kernel
theorem dL_law_201 : decode cL_law 201 = .ok (.iconst 0, 1) := by decide +kernel
theorem dL_law_202 : decode cL_law 202 = .ok (.ireturn, 1) := by decide +kernel
theorem dL_law_203 : decode cL_law 203 = .ok (.aload_n 1, 1) := by decide +kernel
theorem dL_law_204 : decode cL_law 204 = .ok (.aload_n 0, 1) := by decide +kernel
theorem dL_law_205 : decode cL_law 205 = .ok (.iload_n 3, 1) := by decide +kernel
theorem dL_law_206 : decode cL_law 206 = .ok (.iconst 1, 1) := by decide +kernel
theorem dL_law_207 : decode cL_law 207 = .ok (.iadd, 1) := by decide +kernel
theorem dL_law_208 : decode cL_law 208 = .ok (.iaload, 1) := by decide +kernel
theorem dL_law_209 : decode cL_law 209 = .ok (.aload_n 0, 1) := by decide +kernel
theorem dL_law_210 : decode cL_law 210 = .ok (.iload_n 3, 1) := by decide +kernel
theorem dL_law_211 : decode cL_law 211 = .ok (.iconst 2, 1) := by decide +kernel
theorem dL_law_212 : decode cL_law 212 = .ok (.iadd, 1) := by decide +kernel
theorem dL_law_213 : decode cL_law 213 = .ok (.iaload, 1) := by decide +kernel
theorem dL_law_214 : decode cL_law 214 = .ok (.invokevirtual 18, 3) := by decide +kernel
theorem dL_law_217 : decode cL_law 217 = .ok (.aload_n 2, 1) := by decide +kernel
theorem dL_law_218 : decode cL_law 218 = .ok (.aload_n 0, 1) := by decide +kernel
theorem dL_law_219 : decode cL_law 219 = .ok (.iload_n 3, 1) := by decide +kernel
theorem dL_law_220 : decode cL_law 220 = .ok (.iconst 1, 1) := by decide +kernel
theorem dL_law_221 : decode cL_law 221 = .ok (.iadd, 1) := by decide +kernel
theorem dL_law_222 : decode cL_law 222 = .ok (.iaload, 1) := by decide +kernel
theorem dL_law_223 : decode cL_law 223 = .ok (.aload_n 0, 1) := by decide +kernel
theorem dL_law_224 : decode cL_law 224 = .ok (.iload_n 3, 1) := by decide +kernel
theorem dL_law_225 : decode cL_law 225 = .ok (.iconst 2, 1) := by decide +kernel
theorem dL_law_226 : decode cL_law 226 = .ok (.iadd, 1) := by decide +kernel
theorem dL_law_227 : decode cL_law 227 = .ok (.iaload, 1) := by decide +kernel
theorem dL_law_228 : decode cL_law 228 = .ok (.invokevirtual 22, 3) := by decide +kernel
theorem dL_law_231 : decode cL_law 231 = .ok (.if_icmp .eq 733, 3) := by decide +kernel
theorem dL_law_234 : decode cL_law 234 = .ok (.iconst 0, 1) := by decide +kernel
theorem dL_law_235 : decode cL_law 235 = .ok (.ireturn, 1) := by decide +kernel
theorem dL_law_236 : decode cL_law 236 = .ok (.aload_n 1, 1) := by decide +kernel
theorem dL_law_237 : decode cL_law 237 = .ok (.aload_n 0, 1) := by decide +kernel
theorem dL_law_238 : decode cL_law 238 = .ok (.iload_n 3, 1) := by decide +kernel
theorem dL_law_239 : decode cL_law 239 = .ok (.iconst 1, 1) := by decide +kernel
theorem dL_law_240 : decode cL_law 240 = .ok (.iadd, 1) := by decide +kernel
theorem dL_law_241 : decode cL_law 241 = .ok (.iaload, 1) := by decide +kernel
theorem dL_law_242 : decode cL_law 242 = .ok (.aload_n 0, 1) := by decide +kernel
theorem dL_law_243 : decode cL_law 243 = .ok (.iload_n 3, 1) := by decide +kernel
theorem dL_law_244 : decode cL_law 244 = .ok (.iconst 2, 1) := by decide +kernel
theorem dL_law_245 : decode cL_law 245 = .ok (.iadd, 1) := by decide +kernel
theorem dL_law_246 : decode cL_law 246 = .ok (.iaload, 1) := by decide +kernel
theorem dL_law_247 : decode cL_law 247 = .ok (.invokevirtual 23, 3) := by decide +kernel
theorem dL_law_250 : decode cL_law 250 = .ok (.aload_n 2, 1) := by decide +kernel
theorem dL_law_251 : decode cL_law 251 = .ok (.aload_n 0, 1) := by decide +kernel
theorem dL_law_252 : decode cL_law 252 = .ok (.iload_n 3, 1) := by decide +kernel
theorem dL_law_253 : decode cL_law 253 = .ok (.iconst 1, 1) := by decide +kernel
theorem dL_law_254 : decode cL_law 254 = .ok (.iadd, 1) := by decide +kernel
theorem dL_law_255 : decode cL_law 255 = .ok (.iaload, 1) := by decide +kernel
theorem dL_law_256 : decode cL_law 256 = .ok (.aload_n 0, 1) := by decide +kernel
theorem dL_law_257 : decode cL_law 257 = .ok (.iload_n 3, 1) := by decide +kernel
theorem dL_law_258 : decode cL_law 258 = .ok (.iconst 2, 1) := by decide +kernel
theorem dL_law_259 : decode cL_law 259 = .ok (.iadd, 1) := by decide +kernel
theorem dL_law_260 : decode cL_law 260 = .ok (.iaload, 1) := by decide +kernel
theorem dL_law_261 : decode cL_law 261 = .ok (.invokevirtual 26, 3) := by decide +kernel
theorem dL_law_264 : decode cL_law 264 = .ok (.if_icmp .eq 700, 3) := by decide +kernel
theorem dL_law_267 : decode cL_law 267 = .ok (.iconst 0, 1) := by decide +kernel
theorem dL_law_268 : decode cL_law 268 = .ok (.ireturn, 1) := by decide +kernel
theorem dL_law_269 : decode cL_law 269 = .ok (.aload_n 1, 1) := by decide +kernel
theorem dL_law_270 : decode cL_law 270 = .ok (.aload_n 0, 1) := by decide +kernel
theorem dL_law_271 : decode cL_law 271 = .ok (.iload_n 3, 1) := by decide +kernel
theorem dL_law_272 : decode cL_law 272 = .ok (.iconst 1, 1) := by decide +kernel
theorem dL_law_273 : decode cL_law 273 = .ok (.iadd, 1) := by decide +kernel
theorem dL_law_274 : decode cL_law 274 = .ok (.iaload, 1) := by decide +kernel
theorem dL_law_275 : decode cL_law 275 = .ok (.aload_n 0, 1) := by decide +kernel
theorem dL_law_276 : decode cL_law 276 = .ok (.iload_n 3, 1) := by decide +kernel
theorem dL_law_277 : decode cL_law 277 = .ok (.iconst 2, 1) := by decide +kernel
theorem dL_law_278 : decode cL_law 278 = .ok (.iadd, 1) := by decide +kernel
theorem dL_law_279 : decode cL_law 279 = .ok (.iaload, 1) := by decide +kernel
theorem dL_law_280 : decode cL_law 280 = .ok (.aload_n 0, 1) := by decide +kernel
theorem dL_law_281 : decode cL_law 281 = .ok (.iload_n 3, 1) := by decide +kernel
theorem dL_law_282 : decode cL_law 282 = .ok (.iconst 3, 1) := by decide +kernel
theorem dL_law_283 : decode cL_law 283 = .ok (.iadd, 1) := by decide +kernel
theorem dL_law_284 : decode cL_law 284 = .ok (.iaload, 1) := by decide +kernel
theorem dL_law_285 : decode cL_law 285 = .ok (.aload_n 0, 1) := by decide +kernel
theorem dL_law_286 : decode cL_law 286 = .ok (.iload_n 3, 1) := by decide +kernel
theorem dL_law_287 : decode cL_law 287 = .ok (.iconst 4, 1) := by decide +kernel
theorem dL_law_288 : decode cL_law 288 = .ok (.iadd, 1) := by decide +kernel
theorem dL_law_289 : decode cL_law 289 = .ok (.iaload, 1) := by decide +kernel
theorem dL_law_290 : decode cL_law 290 = .ok (.invokevirtual 27, 3) := by decide +kernel
theorem dL_law_293 : decode cL_law 293 = .ok (.aload_n 2, 1) := by decide +kernel
theorem dL_law_294 : decode cL_law 294 = .ok (.aload_n 0, 1) := by decide +kernel
theorem dL_law_295 : decode cL_law 295 = .ok (.iload_n 3, 1) := by decide +kernel
theorem dL_law_296 : decode cL_law 296 = .ok (.iconst 1, 1) := by decide +kernel
theorem dL_law_297 : decode cL_law 297 = .ok (.iadd, 1) := by decide +kernel
theorem dL_law_298 : decode cL_law 298 = .ok (.iaload, 1) := by decide +kernel
theorem dL_law_299 : decode cL_law 299 = .ok (.aload_n 0, 1) := by decide +kernel
theorem dL_law_300 : decode cL_law 300 = .ok (.iload_n 3, 1) := by decide +kernel
theorem dL_law_301 : decode cL_law 301 = .ok (.iconst 2, 1) := by decide +kernel
theorem dL_law_302 : decode cL_law 302 = .ok (.iadd, 1) := by decide +kernel
theorem dL_law_303 : decode cL_law 303 = .ok (.iaload, 1) := by decide +kernel
theorem dL_law_304 : decode cL_law 304 = .ok (.aload_n 0, 1) := by decide +kernel
theorem dL_law_305 : decode cL_law 305 = .ok (.iload_n 3, 1) := by decide +kernel
theorem dL_law_306 : decode cL_law 306 = .ok (.iconst 3, 1) := by decide +kernel
theorem dL_law_307 : decode cL_law 307 = .ok (.iadd, 1) := by decide +kernel
theorem dL_law_308 : decode cL_law 308 = .ok (.iaload, 1) := by decide +kernel
theorem dL_law_309 : decode cL_law 309 = .ok (.aload_n 0, 1) := by decide +kernel
theorem dL_law_310 : decode cL_law 310 = .ok (.iload_n 3, 1) := by decide +kernel
theorem dL_law_311 : decode cL_law 311 = .ok (.iconst 4, 1) := by decide +kernel
theorem dL_law_312 : decode cL_law 312 = .ok (.iadd, 1) := by decide +kernel
theorem dL_law_313 : decode cL_law 313 = .ok (.iaload, 1) := by decide +kernel
theorem dL_law_314 : decode cL_law 314 = .ok (.invokevirtual 31, 3) := by decide +kernel
theorem dL_law_317 : decode cL_law 317 = .ok (.if_icmp .eq 647, 3) := by decide +kernel
theorem dL_law_320 : decode cL_law 320 = .ok (.iconst 0, 1) := by decide +kernel
theorem dL_law_321 : decode cL_law 321 = .ok (.ireturn, 1) := by decide +kernel
theorem dL_law_322 : decode cL_law 322 = .ok (.aload_n 1, 1) := by decide +kernel
theorem dL_law_323 : decode cL_law 323 = .ok (.aload_n 0, 1) := by decide +kernel
theorem dL_law_324 : decode cL_law 324 = .ok (.iload_n 3, 1) := by decide +kernel
theorem dL_law_325 : decode cL_law 325 = .ok (.iconst 1, 1) := by decide +kernel
theorem dL_law_326 : decode cL_law 326 = .ok (.iadd, 1) := by decide +kernel
theorem dL_law_327 : decode cL_law 327 = .ok (.iaload, 1) := by decide +kernel
theorem dL_law_328 : decode cL_law 328 = .ok (.invokevirtual 32, 3) := by decide +kernel
theorem dL_law_331 : decode cL_law 331 = .ok (.aload_n 2, 1) := by decide +kernel
theorem dL_law_332 : decode cL_law 332 = .ok (.aload_n 0, 1) := by decide +kernel
theorem dL_law_333 : decode cL_law 333 = .ok (.iload_n 3, 1) := by decide +kernel
theorem dL_law_334 : decode cL_law 334 = .ok (.iconst 1, 1) := by decide +kernel
theorem dL_law_335 : decode cL_law 335 = .ok (.iadd, 1) := by decide +kernel
theorem dL_law_336 : decode cL_law 336 = .ok (.iaload, 1) := by decide +kernel
theorem dL_law_337 : decode cL_law 337 = .ok (.invokevirtual 36, 3) := by decide +kernel
theorem dL_law_340 : decode cL_law 340 = .ok (.if_icmp .eq 624, 3) := by decide +kernel
theorem dL_law_343 : decode cL_law 343 = .ok (.iconst 0, 1) := by decide +kernel
theorem dL_law_344 : decode cL_law 344 = .ok (.ireturn, 1) := by decide +kernel
theorem dL_law_345 : decode cL_law 345 = .ok (.aload_n 1, 1) := by decide +kernel
theorem dL_law_346 : decode cL_law 346 = .ok (.aload_n 0, 1) := by decide +kernel
theorem dL_law_347 : decode cL_law 347 = .ok (.iload_n 3, 1) := by decide +kernel
theorem dL_law_348 : decode cL_law 348 = .ok (.iconst 1, 1) := by decide +kernel
theorem dL_law_349 : decode cL_law 349 = .ok (.iadd, 1) := by decide +kernel
theorem dL_law_350 : decode cL_law 350 = .ok (.iaload, 1) := by decide +kernel
theorem dL_law_351 : decode cL_law 351 = .ok (.aload_n 0, 1) := by decide +kernel
theorem dL_law_352 : decode cL_law 352 = .ok (.iload_n 3, 1) := by decide +kernel
theorem dL_law_353 : decode cL_law 353 = .ok (.iconst 2, 1) := by decide +kernel
theorem dL_law_354 : decode cL_law 354 = .ok (.iadd, 1) := by decide +kernel
theorem dL_law_355 : decode cL_law 355 = .ok (.iaload, 1) := by decide +kernel
theorem dL_law_356 : decode cL_law 356 = .ok (.invokevirtual 37, 3) := by decide +kernel
theorem dL_law_359 : decode cL_law 359 = .ok (.aload_n 2, 1) := by decide +kernel
theorem dL_law_360 : decode cL_law 360 = .ok (.aload_n 0, 1) := by decide +kernel
theorem dL_law_361 : decode cL_law 361 = .ok (.iload_n 3, 1) := by decide +kernel
theorem dL_law_362 : decode cL_law 362 = .ok (.iconst 1, 1) := by decide +kernel
theorem dL_law_363 : decode cL_law 363 = .ok (.iadd, 1) := by decide +kernel
theorem dL_law_364 : decode cL_law 364 = .ok (.iaload, 1) := by decide +kernel
theorem dL_law_365 : decode cL_law 365 = .ok (.aload_n 0, 1) := by decide +kernel
theorem dL_law_366 : decode cL_law 366 = .ok (.iload_n 3, 1) := by decide +kernel
theorem dL_law_367 : decode cL_law 367 = .ok (.iconst 2, 1) := by decide +kernel
theorem dL_law_368 : decode cL_law 368 = .ok (.iadd, 1) := by decide +kernel
theorem dL_law_369 : decode cL_law 369 = .ok (.iaload, 1) := by decide +kernel
theorem dL_law_370 : decode cL_law 370 = .ok (.invokevirtual 40, 3) := by decide +kernel
theorem dL_law_373 : decode cL_law 373 = .ok (.if_icmp .eq 591, 3) := by decide +kernel
theorem dL_law_376 : decode cL_law 376 = .ok (.iconst 0, 1) := by decide +kernel
theorem dL_law_377 : decode cL_law 377 = .ok (.ireturn, 1) := by decide +kernel
theorem dL_law_378 : decode cL_law 378 = .ok (.aload_n 1, 1) := by decide +kernel
theorem dL_law_379 : decode cL_law 379 = .ok (.aload_n 0, 1) := by decide +kernel
theorem dL_law_380 : decode cL_law 380 = .ok (.iload_n 3, 1) := by decide +kernel
theorem dL_law_381 : decode cL_law 381 = .ok (.iconst 1, 1) := by decide +kernel
theorem dL_law_382 : decode cL_law 382 = .ok (.iadd, 1) := by decide +kernel
theorem dL_law_383 : decode cL_law 383 = .ok (.iaload, 1) := by decide +kernel
theorem dL_law_384 : decode cL_law 384 = .ok (.invokevirtual 41, 3) := by decide +kernel
theorem dL_law_387 : decode cL_law 387 = .ok (.aload_n 2, 1) := by decide +kernel
theorem dL_law_388 : decode cL_law 388 = .ok (.aload_n 0, 1) := by decide +kernel
theorem dL_law_389 : decode cL_law 389 = .ok (.iload_n 3, 1) := by decide +kernel
theorem dL_law_390 : decode cL_law 390 = .ok (.iconst 1, 1) := by decide +kernel
theorem dL_law_391 : decode cL_law 391 = .ok (.iadd, 1) := by decide +kernel
theorem dL_law_392 : decode cL_law 392 = .ok (.iaload, 1) := by decide +kernel
theorem dL_law_393 : decode cL_law 393 = .ok (.invokevirtual 44, 3) := by decide +kernel
theorem dL_law_396 : decode cL_law 396 = .ok (.if_icmp .eq 568, 3) := by decide +kernel
theorem dL_law_399 : decode cL_law 399 = .ok (.iconst 0, 1) := by decide +kernel
theorem dL_law_400 : decode cL_law 400 = .ok (.ireturn, 1) := by decide +kernel
theorem dL_law_401 : decode cL_law 401 = .ok (.aload_n 1, 1) := by decide +kernel
theorem dL_law_402 : decode cL_law 402 = .ok (.aload_n 0, 1) := by decide +kernel
theorem dL_law_403 : decode cL_law 403 = .ok (.iload_n 3, 1) := by decide +kernel
theorem dL_law_404 : decode cL_law 404 = .ok (.iconst 1, 1) := by decide +kernel
theorem dL_law_405 : decode cL_law 405 = .ok (.iadd, 1) := by decide +kernel
theorem dL_law_406 : decode cL_law 406 = .ok (.iaload, 1) := by decide +kernel
theorem dL_law_407 : decode cL_law 407 = .ok (.aload_n 0, 1) := by decide +kernel
theorem dL_law_408 : decode cL_law 408 = .ok (.iload_n 3, 1) := by decide +kernel
theorem dL_law_409 : decode cL_law 409 = .ok (.iconst 2, 1) := by decide +kernel
theorem dL_law_410 : decode cL_law 410 = .ok (.iadd, 1) := by decide +kernel
theorem dL_law_411 : decode cL_law 411 = .ok (.iaload, 1) := by decide +kernel
theorem dL_law_412 : decode cL_law 412 = .ok (.invokevirtual 45, 3) := by decide +kernel
theorem dL_law_415 : decode cL_law 415 = .ok (.aload_n 2, 1) := by decide +kernel
theorem dL_law_416 : decode cL_law 416 = .ok (.aload_n 0, 1) := by decide +kernel
theorem dL_law_417 : decode cL_law 417 = .ok (.iload_n 3, 1) := by decide +kernel
theorem dL_law_418 : decode cL_law 418 = .ok (.iconst 1, 1) := by decide +kernel
theorem dL_law_419 : decode cL_law 419 = .ok (.iadd, 1) := by decide +kernel
theorem dL_law_420 : decode cL_law 420 = .ok (.iaload, 1) := by decide +kernel
theorem dL_law_421 : decode cL_law 421 = .ok (.aload_n 0, 1) := by decide +kernel
theorem dL_law_422 : decode cL_law 422 = .ok (.iload_n 3, 1) := by decide +kernel
theorem dL_law_423 : decode cL_law 423 = .ok (.iconst 2, 1) := by decide +kernel
theorem dL_law_424 : decode cL_law 424 = .ok (.iadd, 1) := by decide +kernel
theorem dL_law_425 : decode cL_law 425 = .ok (.iaload, 1) := by decide +kernel
theorem dL_law_426 : decode cL_law 426 = .ok (.invokevirtual 48, 3) := by decide +kernel
theorem dL_law_429 : decode cL_law 429 = .ok (.if_icmp .eq 535, 3) := by decide +kernel
theorem dL_law_432 : decode cL_law 432 = .ok (.iconst 0, 1) := by decide +kernel
theorem dL_law_433 : decode cL_law 433 = .ok (.ireturn, 1) := by decide +kernel
theorem dL_law_434 : decode cL_law 434 = .ok (.aload_n 1, 1) := by decide +kernel
theorem dL_law_435 : decode cL_law 435 = .ok (.aload_n 0, 1) := by decide +kernel
theorem dL_law_436 : decode cL_law 436 = .ok (.iload_n 3, 1) := by decide +kernel
theorem dL_law_437 : decode cL_law 437 = .ok (.iconst 1, 1) := by decide +kernel
theorem dL_law_438 : decode cL_law 438 = .ok (.iadd, 1) := by decide +kernel
theorem dL_law_439 : decode cL_law 439 = .ok (.iaload, 1) := by decide +kernel
theorem dL_law_440 : decode cL_law 440 = .ok (.aload_n 0, 1) := by decide +kernel
theorem dL_law_441 : decode cL_law 441 = .ok (.iload_n 3, 1) := by decide +kernel
theorem dL_law_442 : decode cL_law 442 = .ok (.iconst 2, 1) := by decide +kernel
theorem dL_law_443 : decode cL_law 443 = .ok (.iadd, 1) := by decide +kernel
theorem dL_law_444 : decode cL_law 444 = .ok (.iaload, 1) := by decide +kernel
theorem dL_law_445 : decode cL_law 445 = .ok (.invokevirtual 49, 3) := by decide +kernel
theorem dL_law_448 : decode cL_law 448 = .ok (.aload_n 2, 1) := by decide +kernel
theorem dL_law_449 : decode cL_law 449 = .ok (.aload_n 0, 1) := by decide +kernel
theorem dL_law_450 : decode cL_law 450 = .ok (.iload_n 3, 1) := by decide +kernel
theorem dL_law_451 : decode cL_law 451 = .ok (.iconst 1, 1) := by decide +kernel
theorem dL_law_452 : decode cL_law 452 = .ok (.iadd, 1) := by decide +kernel
theorem dL_law_453 : decode cL_law 453 = .ok (.iaload, 1) := by decide +kernel
theorem dL_law_454 : decode cL_law 454 = .ok (.aload_n 0, 1) := by decide +kernel
theorem dL_law_455 : decode cL_law 455 = .ok (.iload_n 3, 1) := by decide +kernel
theorem dL_law_456 : decode cL_law 456 = .ok (.iconst 2, 1) := by decide +kernel
theorem dL_law_457 : decode cL_law 457 = .ok (.iadd, 1) := by decide +kernel
theorem dL_law_458 : decode cL_law 458 = .ok (.iaload, 1) := by decide +kernel
theorem dL_law_459 : decode cL_law 459 = .ok (.invokevirtual 52, 3) := by decide +kernel
theorem dL_law_462 : decode cL_law 462 = .ok (.if_icmp .eq 502, 3) := by decide +kernel
theorem dL_law_465 : decode cL_law 465 = .ok (.iconst 0, 1) := by decide +kernel
theorem dL_law_466 : decode cL_law 466 = .ok (.ireturn, 1) := by decide +kernel
theorem dL_law_467 : decode cL_law 467 = .ok (.aload_n 1, 1) := by decide +kernel
theorem dL_law_468 : decode cL_law 468 = .ok (.aload_n 0, 1) := by decide +kernel
theorem dL_law_469 : decode cL_law 469 = .ok (.iload_n 3, 1) := by decide +kernel
theorem dL_law_470 : decode cL_law 470 = .ok (.iconst 1, 1) := by decide +kernel
theorem dL_law_471 : decode cL_law 471 = .ok (.iadd, 1) := by decide +kernel
theorem dL_law_472 : decode cL_law 472 = .ok (.iaload, 1) := by decide +kernel
theorem dL_law_473 : decode cL_law 473 = .ok (.aload_n 0, 1) := by decide +kernel
theorem dL_law_474 : decode cL_law 474 = .ok (.iload_n 3, 1) := by decide +kernel
theorem dL_law_475 : decode cL_law 475 = .ok (.iconst 2, 1) := by decide +kernel
theorem dL_law_476 : decode cL_law 476 = .ok (.iadd, 1) := by decide +kernel
theorem dL_law_477 : decode cL_law 477 = .ok (.iaload, 1) := by decide +kernel
theorem dL_law_478 : decode cL_law 478 = .ok (.invokevirtual 53, 3) := by decide +kernel
theorem dL_law_481 : decode cL_law 481 = .ok (.aload_n 2, 1) := by decide +kernel
theorem dL_law_482 : decode cL_law 482 = .ok (.aload_n 0, 1) := by decide +kernel
theorem dL_law_483 : decode cL_law 483 = .ok (.iload_n 3, 1) := by decide +kernel
theorem dL_law_484 : decode cL_law 484 = .ok (.iconst 1, 1) := by decide +kernel
theorem dL_law_485 : decode cL_law 485 = .ok (.iadd, 1) := by decide +kernel
theorem dL_law_486 : decode cL_law 486 = .ok (.iaload, 1) := by decide +kernel
theorem dL_law_487 : decode cL_law 487 = .ok (.aload_n 0, 1) := by decide +kernel
theorem dL_law_488 : decode cL_law 488 = .ok (.iload_n 3, 1) := by decide +kernel
theorem dL_law_489 : decode cL_law 489 = .ok (.iconst 2, 1) := by decide +kernel
theorem dL_law_490 : decode cL_law 490 = .ok (.iadd, 1) := by decide +kernel
theorem dL_law_491 : decode cL_law 491 = .ok (.iaload, 1) := by decide +kernel
theorem dL_law_492 : decode cL_law 492 = .ok (.invokevirtual 56, 3) := by decide +kernel
theorem dL_law_495 : decode cL_law 495 = .ok (.if_icmp .eq 469, 3) := by decide +kernel
theorem dL_law_498 : decode cL_law 498 = .ok (.iconst 0, 1) := by decide +kernel
theorem dL_law_499 : decode cL_law 499 = .ok (.ireturn, 1) := by decide +kernel
theorem dL_law_500 : decode cL_law 500 = .ok (.aload_n 1, 1) := by decide +kernel
theorem dL_law_501 : decode cL_law 501 = .ok (.aload_n 0, 1) := by decide +kernel
theorem dL_law_502 : decode cL_law 502 = .ok (.iload_n 3, 1) := by decide +kernel
theorem dL_law_503 : decode cL_law 503 = .ok (.iconst 1, 1) := by decide +kernel
theorem dL_law_504 : decode cL_law 504 = .ok (.iadd, 1) := by decide +kernel
theorem dL_law_505 : decode cL_law 505 = .ok (.iaload, 1) := by decide +kernel
theorem dL_law_506 : decode cL_law 506 = .ok (.invokevirtual 57, 3) := by decide +kernel
theorem dL_law_509 : decode cL_law 509 = .ok (.aload_n 2, 1) := by decide +kernel
theorem dL_law_510 : decode cL_law 510 = .ok (.aload_n 0, 1) := by decide +kernel
theorem dL_law_511 : decode cL_law 511 = .ok (.iload_n 3, 1) := by decide +kernel
theorem dL_law_512 : decode cL_law 512 = .ok (.iconst 1, 1) := by decide +kernel
theorem dL_law_513 : decode cL_law 513 = .ok (.iadd, 1) := by decide +kernel
theorem dL_law_514 : decode cL_law 514 = .ok (.iaload, 1) := by decide +kernel
theorem dL_law_515 : decode cL_law 515 = .ok (.invokevirtual 60, 3) := by decide +kernel
theorem dL_law_518 : decode cL_law 518 = .ok (.if_icmp .eq 446, 3) := by decide +kernel
theorem dL_law_521 : decode cL_law 521 = .ok (.iconst 0, 1) := by decide +kernel
theorem dL_law_522 : decode cL_law 522 = .ok (.ireturn, 1) := by decide +kernel
theorem dL_law_523 : decode cL_law 523 = .ok (.aload_n 1, 1) := by decide +kernel
theorem dL_law_524 : decode cL_law 524 = .ok (.invokevirtual 61, 3) := by decide +kernel
theorem dL_law_527 : decode cL_law 527 = .ok (.aload_n 2, 1) := by decide +kernel
theorem dL_law_528 : decode cL_law 528 = .ok (.invokevirtual 65, 3) := by decide +kernel
theorem dL_law_531 : decode cL_law 531 = .ok (.if_icmp .eq 433, 3) := by decide +kernel
theorem dL_law_534 : decode cL_law 534 = .ok (.iconst 0, 1) := by decide +kernel
theorem dL_law_535 : decode cL_law 535 = .ok (.ireturn, 1) := by decide +kernel
theorem dL_law_536 : decode cL_law 536 = .ok (.aload_n 1, 1) := by decide +kernel
theorem dL_law_537 : decode cL_law 537 = .ok (.aload_n 0, 1) := by decide +kernel
theorem dL_law_538 : decode cL_law 538 = .ok (.iload_n 3, 1) := by decide +kernel
theorem dL_law_539 : decode cL_law 539 = .ok (.iconst 1, 1) := by decide +kernel
theorem dL_law_540 : decode cL_law 540 = .ok (.iadd, 1) := by decide +kernel
theorem dL_law_541 : decode cL_law 541 = .ok (.iaload, 1) := by decide +kernel
theorem dL_law_542 : decode cL_law 542 = .ok (.aload_n 0, 1) := by decide +kernel
theorem dL_law_543 : decode cL_law 543 = .ok (.iload_n 3, 1) := by decide +kernel
theorem dL_law_544 : decode cL_law 544 = .ok (.iconst 2, 1) := by decide +kernel
theorem dL_law_545 : decode cL_law 545 = .ok (.iadd, 1) := by decide +kernel
theorem dL_law_546 : decode cL_law 546 = .ok (.iaload, 1) := by decide +kernel
theorem dL_law_547 : decode cL_law 547 = .ok (.aload_n 0, 1) := by decide +kernel
theorem dL_law_548 : decode cL_law 548 = .ok (.iload_n 3, 1) := by decide +kernel
theorem dL_law_549 : decode cL_law 549 = .ok (.iconst 3, 1) := by decide +kernel
theorem dL_law_550 : decode cL_law 550 = .ok (.iadd, 1) := by decide +kernel
theorem dL_law_551 : decode cL_law 551 = .ok (.iaload, 1) := by decide +kernel
theorem dL_law_552 : decode cL_law 552 = .ok (.invokevirtual 66, 3) := by decide +kernel
theorem dL_law_555 : decode cL_law 555 = .ok (.aload_n 2, 1) := by decide +kernel
theorem dL_law_556 : decode cL_law 556 = .ok (.aload_n 0, 1) := by decide +kernel
theorem dL_law_557 : decode cL_law 557 = .ok (.iload_n 3, 1) := by decide +kernel
theorem dL_law_558 : decode cL_law 558 = .ok (.iconst 1, 1) := by decide +kernel
theorem dL_law_559 : decode cL_law 559 = .ok (.iadd, 1) := by decide +kernel
theorem dL_law_560 : decode cL_law 560 = .ok (.iaload, 1) := by decide +kernel
theorem dL_law_561 : decode cL_law 561 = .ok (.aload_n 0, 1) := by decide +kernel
theorem dL_law_562 : decode cL_law 562 = .ok (.iload_n 3, 1) := by decide +kernel
theorem dL_law_563 : decode cL_law 563 = .ok (.iconst 2, 1) := by decide +kernel
theorem dL_law_564 : decode cL_law 564 = .ok (.iadd, 1) := by decide +kernel
theorem dL_law_565 : decode cL_law 565 = .ok (.iaload, 1) := by decide +kernel
theorem dL_law_566 : decode cL_law 566 = .ok (.aload_n 0, 1) := by decide +kernel
theorem dL_law_567 : decode cL_law 567 = .ok (.iload_n 3, 1) := by decide +kernel
theorem dL_law_568 : decode cL_law 568 = .ok (.iconst 3, 1) := by decide +kernel
theorem dL_law_569 : decode cL_law 569 = .ok (.iadd, 1) := by decide +kernel
theorem dL_law_570 : decode cL_law 570 = .ok (.iaload, 1) := by decide +kernel
theorem dL_law_571 : decode cL_law 571 = .ok (.invokevirtual 69, 3) := by decide +kernel
theorem dL_law_574 : decode cL_law 574 = .ok (.if_icmp .eq 390, 3) := by decide +kernel
theorem dL_law_577 : decode cL_law 577 = .ok (.iconst 0, 1) := by decide +kernel
theorem dL_law_578 : decode cL_law 578 = .ok (.ireturn, 1) := by decide +kernel
theorem dL_law_579 : decode cL_law 579 = .ok (.aload_n 1, 1) := by decide +kernel
theorem dL_law_580 : decode cL_law 580 = .ok (.aload_n 0, 1) := by decide +kernel
theorem dL_law_581 : decode cL_law 581 = .ok (.iload_n 3, 1) := by decide +kernel
theorem dL_law_582 : decode cL_law 582 = .ok (.iconst 1, 1) := by decide +kernel
theorem dL_law_583 : decode cL_law 583 = .ok (.iadd, 1) := by decide +kernel
theorem dL_law_584 : decode cL_law 584 = .ok (.iaload, 1) := by decide +kernel
theorem dL_law_585 : decode cL_law 585 = .ok (.invokevirtual 70, 3) := by decide +kernel
theorem dL_law_588 : decode cL_law 588 = .ok (.aload_n 2, 1) := by decide +kernel
theorem dL_law_589 : decode cL_law 589 = .ok (.aload_n 0, 1) := by decide +kernel
theorem dL_law_590 : decode cL_law 590 = .ok (.iload_n 3, 1) := by decide +kernel
theorem dL_law_591 : decode cL_law 591 = .ok (.iconst 1, 1) := by decide +kernel
theorem dL_law_592 : decode cL_law 592 = .ok (.iadd, 1) := by decide +kernel
theorem dL_law_593 : decode cL_law 593 = .ok (.iaload, 1) := by decide +kernel
theorem dL_law_594 : decode cL_law 594 = .ok (.invokevirtual 73, 3) := by decide +kernel
theorem dL_law_597 : decode cL_law 597 = .ok (.if_icmp .eq 367, 3) := by decide +kernel
theorem dL_law_600 : decode cL_law 600 = .ok (.iconst 0, 1) := by decide +kernel
theorem dL_law_601 : decode cL_law 601 = .ok (.ireturn, 1) := by decide +kernel
theorem dL_law_602 : decode cL_law 602 = .ok (.aload_n 1, 1) := by decide +kernel
theorem dL_law_603 : decode cL_law 603 = .ok (.aload_n 0, 1) := by decide +kernel
theorem dL_law_604 : decode cL_law 604 = .ok (.iload_n 3, 1) := by decide +kernel
theorem dL_law_605 : decode cL_law 605 = .ok (.iconst 1, 1) := by decide +kernel
theorem dL_law_606 : decode cL_law 606 = .ok (.iadd, 1) := by decide +kernel
theorem dL_law_607 : decode cL_law 607 = .ok (.iaload, 1) := by decide +kernel
theorem dL_law_608 : decode cL_law 608 = .ok (.aload_n 0, 1) := by decide +kernel
theorem dL_law_609 : decode cL_law 609 = .ok (.iload_n 3, 1) := by decide +kernel
theorem dL_law_610 : decode cL_law 610 = .ok (.iconst 2, 1) := by decide +kernel
theorem dL_law_611 : decode cL_law 611 = .ok (.iadd, 1) := by decide +kernel
theorem dL_law_612 : decode cL_law 612 = .ok (.iaload, 1) := by decide +kernel
theorem dL_law_613 : decode cL_law 613 = .ok (.invokevirtual 74, 3) := by decide +kernel
theorem dL_law_616 : decode cL_law 616 = .ok (.aload_n 2, 1) := by decide +kernel
theorem dL_law_617 : decode cL_law 617 = .ok (.aload_n 0, 1) := by decide +kernel
theorem dL_law_618 : decode cL_law 618 = .ok (.iload_n 3, 1) := by decide +kernel
theorem dL_law_619 : decode cL_law 619 = .ok (.iconst 1, 1) := by decide +kernel
theorem dL_law_620 : decode cL_law 620 = .ok (.iadd, 1) := by decide +kernel
theorem dL_law_621 : decode cL_law 621 = .ok (.iaload, 1) := by decide +kernel
theorem dL_law_622 : decode cL_law 622 = .ok (.aload_n 0, 1) := by decide +kernel
theorem dL_law_623 : decode cL_law 623 = .ok (.iload_n 3, 1) := by decide +kernel
theorem dL_law_624 : decode cL_law 624 = .ok (.iconst 2, 1) := by decide +kernel
theorem dL_law_625 : decode cL_law 625 = .ok (.iadd, 1) := by decide +kernel
theorem dL_law_626 : decode cL_law 626 = .ok (.iaload, 1) := by decide +kernel
theorem dL_law_627 : decode cL_law 627 = .ok (.invokevirtual 77, 3) := by decide +kernel
theorem dL_law_630 : decode cL_law 630 = .ok (.if_icmp .eq 334, 3) := by decide +kernel
theorem dL_law_633 : decode cL_law 633 = .ok (.iconst 0, 1) := by decide +kernel
theorem dL_law_634 : decode cL_law 634 = .ok (.ireturn, 1) := by decide +kernel
theorem dL_law_635 : decode cL_law 635 = .ok (.aload_n 1, 1) := by decide +kernel
theorem dL_law_636 : decode cL_law 636 = .ok (.aload_n 0, 1) := by decide +kernel
theorem dL_law_637 : decode cL_law 637 = .ok (.iload_n 3, 1) := by decide +kernel
theorem dL_law_638 : decode cL_law 638 = .ok (.iconst 1, 1) := by decide +kernel
theorem dL_law_639 : decode cL_law 639 = .ok (.iadd, 1) := by decide +kernel
theorem dL_law_640 : decode cL_law 640 = .ok (.iaload, 1) := by decide +kernel
theorem dL_law_641 : decode cL_law 641 = .ok (.aload_n 0, 1) := by decide +kernel
theorem dL_law_642 : decode cL_law 642 = .ok (.iload_n 3, 1) := by decide +kernel
theorem dL_law_643 : decode cL_law 643 = .ok (.iconst 2, 1) := by decide +kernel
theorem dL_law_644 : decode cL_law 644 = .ok (.iadd, 1) := by decide +kernel
theorem dL_law_645 : decode cL_law 645 = .ok (.iaload, 1) := by decide +kernel
theorem dL_law_646 : decode cL_law 646 = .ok (.invokevirtual 78, 3) := by decide +kernel
theorem dL_law_649 : decode cL_law 649 = .ok (.aload_n 2, 1) := by decide +kernel
theorem dL_law_650 : decode cL_law 650 = .ok (.aload_n 0, 1) := by decide +kernel
theorem dL_law_651 : decode cL_law 651 = .ok (.iload_n 3, 1) := by decide +kernel
theorem dL_law_652 : decode cL_law 652 = .ok (.iconst 1, 1) := by decide +kernel
theorem dL_law_653 : decode cL_law 653 = .ok (.iadd, 1) := by decide +kernel
theorem dL_law_654 : decode cL_law 654 = .ok (.iaload, 1) := by decide +kernel
theorem dL_law_655 : decode cL_law 655 = .ok (.aload_n 0, 1) := by decide +kernel
theorem dL_law_656 : decode cL_law 656 = .ok (.iload_n 3, 1) := by decide +kernel
theorem dL_law_657 : decode cL_law 657 = .ok (.iconst 2, 1) := by decide +kernel
theorem dL_law_658 : decode cL_law 658 = .ok (.iadd, 1) := by decide +kernel
theorem dL_law_659 : decode cL_law 659 = .ok (.iaload, 1) := by decide +kernel
theorem dL_law_660 : decode cL_law 660 = .ok (.invokevirtual 81, 3) := by decide +kernel
theorem dL_law_663 : decode cL_law 663 = .ok (.if_icmp .eq 301, 3) := by decide +kernel
theorem dL_law_666 : decode cL_law 666 = .ok (.iconst 0, 1) := by decide +kernel
theorem dL_law_667 : decode cL_law 667 = .ok (.ireturn, 1) := by decide +kernel
theorem dL_law_668 : decode cL_law 668 = .ok (.aload_n 1, 1) := by decide +kernel
theorem dL_law_669 : decode cL_law 669 = .ok (.aload_n 0, 1) := by decide +kernel
theorem dL_law_670 : decode cL_law 670 = .ok (.iload_n 3, 1) := by decide +kernel
theorem dL_law_671 : decode cL_law 671 = .ok (.iconst 1, 1) := by decide +kernel
theorem dL_law_672 : decode cL_law 672 = .ok (.iadd, 1) := by decide +kernel
theorem dL_law_673 : decode cL_law 673 = .ok (.iaload, 1) := by decide +kernel
theorem dL_law_674 : decode cL_law 674 = .ok (.aload_n 0, 1) := by decide +kernel
theorem dL_law_675 : decode cL_law 675 = .ok (.iload_n 3, 1) := by decide +kernel
theorem dL_law_676 : decode cL_law 676 = .ok (.iconst 2, 1) := by decide +kernel
theorem dL_law_677 : decode cL_law 677 = .ok (.iadd, 1) := by decide +kernel
theorem dL_law_678 : decode cL_law 678 = .ok (.iaload, 1) := by decide +kernel
theorem dL_law_679 : decode cL_law 679 = .ok (.invokevirtual 82, 3) := by decide +kernel
theorem dL_law_682 : decode cL_law 682 = .ok (.aload_n 2, 1) := by decide +kernel
theorem dL_law_683 : decode cL_law 683 = .ok (.aload_n 0, 1) := by decide +kernel
theorem dL_law_684 : decode cL_law 684 = .ok (.iload_n 3, 1) := by decide +kernel
theorem dL_law_685 : decode cL_law 685 = .ok (.iconst 1, 1) := by decide +kernel
theorem dL_law_686 : decode cL_law 686 = .ok (.iadd, 1) := by decide +kernel
theorem dL_law_687 : decode cL_law 687 = .ok (.iaload, 1) := by decide +kernel
theorem dL_law_688 : decode cL_law 688 = .ok (.aload_n 0, 1) := by decide +kernel
theorem dL_law_689 : decode cL_law 689 = .ok (.iload_n 3, 1) := by decide +kernel
theorem dL_law_690 : decode cL_law 690 = .ok (.iconst 2, 1) := by decide +kernel
theorem dL_law_691 : decode cL_law 691 = .ok (.iadd, 1) := by decide +kernel
theorem dL_law_692 : decode cL_law 692 = .ok (.iaload, 1) := by decide +kernel
theorem dL_law_693 : decode cL_law 693 = .ok (.invokevirtual 85, 3) := by decide +kernel
theorem dL_law_696 : decode cL_law 696 = .ok (.if_icmp .eq 268, 3) := by decide +kernel
theorem dL_law_699 : decode cL_law 699 = .ok (.iconst 0, 1) := by decide +kernel
theorem dL_law_700 : decode cL_law 700 = .ok (.ireturn, 1) := by decide +kernel
theorem dL_law_701 : decode cL_law 701 = .ok (.aload_n 1, 1) := by decide +kernel
theorem dL_law_702 : decode cL_law 702 = .ok (.aload_n 0, 1) := by decide +kernel
theorem dL_law_703 : decode cL_law 703 = .ok (.iload_n 3, 1) := by decide +kernel
theorem dL_law_704 : decode cL_law 704 = .ok (.iconst 1, 1) := by decide +kernel
theorem dL_law_705 : decode cL_law 705 = .ok (.iadd, 1) := by decide +kernel
theorem dL_law_706 : decode cL_law 706 = .ok (.iaload, 1) := by decide +kernel
theorem dL_law_707 : decode cL_law 707 = .ok (.invokevirtual 86, 3) := by decide +kernel
theorem dL_law_710 : decode cL_law 710 = .ok (.aload_n 2, 1) := by decide +kernel
theorem dL_law_711 : decode cL_law 711 = .ok (.aload_n 0, 1) := by decide +kernel
theorem dL_law_712 : decode cL_law 712 = .ok (.iload_n 3, 1) := by decide +kernel
theorem dL_law_713 : decode cL_law 713 = .ok (.iconst 1, 1) := by decide +kernel
theorem dL_law_714 : decode cL_law 714 = .ok (.iadd, 1) := by decide +kernel
theorem dL_law_715 : decode cL_law 715 = .ok (.iaload, 1) := by decide +kernel
theorem dL_law_716 : decode cL_law 716 = .ok (.invokevirtual 89, 3) := by decide +kernel
theorem dL_law_719 : decode cL_law 719 = .ok (.if_icmp .eq 245, 3) := by decide +kernel
theorem dL_law_722 : decode cL_law 722 = .ok (.iconst 0, 1) := by decide +kernel
theorem dL_law_723 : decode cL_law 723 = .ok (.ireturn, 1) := by decide +kernel
theorem dL_law_724 : decode cL_law 724 = .ok (.aload_n 1, 1) := by decide +kernel
theorem dL_law_725 : decode cL_law 725 = .ok (.aload_n 0, 1) := by decide +kernel
theorem dL_law_726 : decode cL_law 726 = .ok (.iload_n 3, 1) := by decide +kernel
theorem dL_law_727 : decode cL_law 727 = .ok (.iconst 1, 1) := by decide +kernel
theorem dL_law_728 : decode cL_law 728 = .ok (.iadd, 1) := by decide +kernel
theorem dL_law_729 : decode cL_law 729 = .ok (.iaload, 1) := by decide +kernel
theorem dL_law_730 : decode cL_law 730 = .ok (.aload_n 0, 1) := by decide +kernel
theorem dL_law_731 : decode cL_law 731 = .ok (.iload_n 3, 1) := by decide +kernel
theorem dL_law_732 : decode cL_law 732 = .ok (.iconst 2, 1) := by decide +kernel
theorem dL_law_733 : decode cL_law 733 = .ok (.iadd, 1) := by decide +kernel
theorem dL_law_734 : decode cL_law 734 = .ok (.iaload, 1) := by decide +kernel
theorem dL_law_735 : decode cL_law 735 = .ok (.invokevirtual 90, 3) := by decide +kernel
theorem dL_law_738 : decode cL_law 738 = .ok (.aload_n 2, 1) := by decide +kernel
theorem dL_law_739 : decode cL_law 739 = .ok (.aload_n 0, 1) := by decide +kernel
theorem dL_law_740 : decode cL_law 740 = .ok (.iload_n 3, 1) := by decide +kernel
theorem dL_law_741 : decode cL_law 741 = .ok (.iconst 1, 1) := by decide +kernel
theorem dL_law_742 : decode cL_law 742 = .ok (.iadd, 1) := by decide +kernel
theorem dL_law_743 : decode cL_law 743 = .ok (.iaload, 1) := by decide +kernel
theorem dL_law_744 : decode cL_law 744 = .ok (.aload_n 0, 1) := by decide +kernel
theorem dL_law_745 : decode cL_law 745 = .ok (.iload_n 3, 1) := by decide +kernel
theorem dL_law_746 : decode cL_law 746 = .ok (.iconst 2, 1) := by decide +kernel
theorem dL_law_747 : decode cL_law 747 = .ok (.iadd, 1) := by decide +kernel
theorem dL_law_748 : decode cL_law 748 = .ok (.iaload, 1) := by decide +kernel
theorem dL_law_749 : decode cL_law 749 = .ok (.invokevirtual 93, 3) := by decide +kernel
theorem dL_law_752 : decode cL_law 752 = .ok (.if_icmp .eq 212, 3) := by decide +kernel
theorem dL_law_755 : decode cL_law 755 = .ok (.iconst 0, 1) := by decide +kernel
theorem dL_law_756 : decode cL_law 756 = .ok (.ireturn, 1) := by decide +kernel
theorem dL_law_757 : decode cL_law 757 = .ok (.aload_n 1, 1) := by decide +kernel
theorem dL_law_758 : decode cL_law 758 = .ok (.aload_n 0, 1) := by decide +kernel
theorem dL_law_759 : decode cL_law 759 = .ok (.iload_n 3, 1) := by decide +kernel
theorem dL_law_760 : decode cL_law 760 = .ok (.iconst 1, 1) := by decide +kernel
theorem dL_law_761 : decode cL_law 761 = .ok (.iadd, 1) := by decide +kernel
theorem dL_law_762 : decode cL_law 762 = .ok (.iaload, 1) := by decide +kernel
theorem dL_law_763 : decode cL_law 763 = .ok (.invokevirtual 94, 3) := by decide +kernel
theorem dL_law_766 : decode cL_law 766 = .ok (.aload_n 2, 1) := by decide +kernel
theorem dL_law_767 : decode cL_law 767 = .ok (.aload_n 0, 1) := by decide +kernel
theorem dL_law_768 : decode cL_law 768 = .ok (.iload_n 3, 1) := by decide +kernel
theorem dL_law_769 : decode cL_law 769 = .ok (.iconst 1, 1) := by decide +kernel
theorem dL_law_770 : decode cL_law 770 = .ok (.iadd, 1) := by decide +kernel
theorem dL_law_771 : decode cL_law 771 = .ok (.iaload, 1) := by decide +kernel
theorem dL_law_772 : decode cL_law 772 = .ok (.invokevirtual 97, 3) := by decide +kernel
theorem dL_law_775 : decode cL_law 775 = .ok (.if_icmp .eq 189, 3) := by decide +kernel
theorem dL_law_778 : decode cL_law 778 = .ok (.iconst 0, 1) := by decide +kernel
theorem dL_law_779 : decode cL_law 779 = .ok (.ireturn, 1) := by decide +kernel
theorem dL_law_780 : decode cL_law 780 = .ok (.aload_n 1, 1) := by decide +kernel
theorem dL_law_781 : decode cL_law 781 = .ok (.aload_n 0, 1) := by decide +kernel
theorem dL_law_782 : decode cL_law 782 = .ok (.iload_n 3, 1) := by decide +kernel
theorem dL_law_783 : decode cL_law 783 = .ok (.iconst 1, 1) := by decide +kernel
theorem dL_law_784 : decode cL_law 784 = .ok (.iadd, 1) := by decide +kernel
theorem dL_law_785 : decode cL_law 785 = .ok (.iaload, 1) := by decide +kernel
theorem dL_law_786 : decode cL_law 786 = .ok (.invokevirtual 98, 3) := by decide +kernel
theorem dL_law_789 : decode cL_law 789 = .ok (.aload_n 2, 1) := by decide +kernel
theorem dL_law_790 : decode cL_law 790 = .ok (.aload_n 0, 1) := by decide +kernel
theorem dL_law_791 : decode cL_law 791 = .ok (.iload_n 3, 1) := by decide +kernel
theorem dL_law_792 : decode cL_law 792 = .ok (.iconst 1, 1) := by decide +kernel
theorem dL_law_793 : decode cL_law 793 = .ok (.iadd, 1) := by decide +kernel
theorem dL_law_794 : decode cL_law 794 = .ok (.iaload, 1) := by decide +kernel
theorem dL_law_795 : decode cL_law 795 = .ok (.invokevirtual 101, 3) := by decide +kernel
theorem dL_law_798 : decode cL_law 798 = .ok (.if_icmp .eq 166, 3) := by decide +kernel
theorem dL_law_801 : decode cL_law 801 = .ok (.iconst 0, 1) := by decide +kernel
theorem dL_law_802 : decode cL_law 802 = .ok (.ireturn, 1) := by decide +kernel
theorem dL_law_803 : decode cL_law 803 = .ok (.aload_n 1, 1) := by decide +kernel
theorem dL_law_804 : decode cL_law 804 = .ok (.aload_n 0, 1) := by decide +kernel
theorem dL_law_805 : decode cL_law 805 = .ok (.iload_n 3, 1) := by decide +kernel
theorem dL_law_806 : decode cL_law 806 = .ok (.iconst 1, 1) := by decide +kernel
theorem dL_law_807 : decode cL_law 807 = .ok (.iadd, 1) := by decide +kernel
theorem dL_law_808 : decode cL_law 808 = .ok (.iaload, 1) := by decide +kernel
theorem dL_law_809 : decode cL_law 809 = .ok (.aload_n 0, 1) := by decide +kernel
theorem dL_law_810 : decode cL_law 810 = .ok (.iload_n 3, 1) := by decide +kernel
theorem dL_law_811 : decode cL_law 811 = .ok (.iconst 2, 1) := by decide +kernel
theorem dL_law_812 : decode cL_law 812 = .ok (.iadd, 1) := by decide +kernel
theorem dL_law_813 : decode cL_law 813 = .ok (.iaload, 1) := by decide +kernel
theorem dL_law_814 : decode cL_law 814 = .ok (.invokevirtual 102, 3) := by decide +kernel
theorem dL_law_817 : decode cL_law 817 = .ok (.aload_n 2, 1) := by decide +kernel
theorem dL_law_818 : decode cL_law 818 = .ok (.aload_n 0, 1) := by decide +kernel
theorem dL_law_819 : decode cL_law 819 = .ok (.iload_n 3, 1) := by decide +kernel
theorem dL_law_820 : decode cL_law 820 = .ok (.iconst 1, 1) := by decide +kernel
theorem dL_law_821 : decode cL_law 821 = .ok (.iadd, 1) := by decide +kernel
theorem dL_law_822 : decode cL_law 822 = .ok (.iaload, 1) := by decide +kernel
theorem dL_law_823 : decode cL_law 823 = .ok (.aload_n 0, 1) := by decide +kernel
theorem dL_law_824 : decode cL_law 824 = .ok (.iload_n 3, 1) := by decide +kernel
theorem dL_law_825 : decode cL_law 825 = .ok (.iconst 2, 1) := by decide +kernel
theorem dL_law_826 : decode cL_law 826 = .ok (.iadd, 1) := by decide +kernel
theorem dL_law_827 : decode cL_law 827 = .ok (.iaload, 1) := by decide +kernel
theorem dL_law_828 : decode cL_law 828 = .ok (.invokevirtual 105, 3) := by decide +kernel
theorem dL_law_831 : decode cL_law 831 = .ok (.if_icmp .eq 133, 3) := by decide +kernel
theorem dL_law_834 : decode cL_law 834 = .ok (.iconst 0, 1) := by decide +kernel
theorem dL_law_835 : decode cL_law 835 = .ok (.ireturn, 1) := by decide +kernel
theorem dL_law_836 : decode cL_law 836 = .ok (.aload_n 1, 1) := by decide +kernel
theorem dL_law_837 : decode cL_law 837 = .ok (.aload_n 0, 1) := by decide +kernel
theorem dL_law_838 : decode cL_law 838 = .ok (.iload_n 3, 1) := by decide +kernel
theorem dL_law_839 : decode cL_law 839 = .ok (.iconst 1, 1) := by decide +kernel
theorem dL_law_840 : decode cL_law 840 = .ok (.iadd, 1) := by decide +kernel
theorem dL_law_841 : decode cL_law 841 = .ok (.iaload, 1) := by decide +kernel
theorem dL_law_842 : decode cL_law 842 = .ok (.invokevirtual 106, 3) := by decide +kernel
theorem dL_law_845 : decode cL_law 845 = .ok (.aload_n 2, 1) := by decide +kernel
theorem dL_law_846 : decode cL_law 846 = .ok (.aload_n 0, 1) := by decide +kernel
theorem dL_law_847 : decode cL_law 847 = .ok (.iload_n 3, 1) := by decide +kernel
theorem dL_law_848 : decode cL_law 848 = .ok (.iconst 1, 1) := by decide +kernel
theorem dL_law_849 : decode cL_law 849 = .ok (.iadd, 1) := by decide +kernel
theorem dL_law_850 : decode cL_law 850 = .ok (.iaload, 1) := by decide +kernel
theorem dL_law_851 : decode cL_law 851 = .ok (.invokevirtual 109, 3) := by decide +kernel
theorem dL_law_854 : decode cL_law 854 = .ok (.if_icmp .eq 110, 3) := by decide +kernel
theorem dL_law_857 : decode cL_law 857 = .ok (.iconst 0, 1) := by decide +kernel
theorem dL_law_858 : decode cL_law 858 = .ok (.ireturn, 1) := by decide +kernel
theorem dL_law_859 : decode cL_law 859 = .ok (.aload_n 1, 1) := by decide +kernel
theorem dL_law_860 : decode cL_law 860 = .ok (.aload_n 0, 1) := by decide +kernel
theorem dL_law_861 : decode cL_law 861 = .ok (.iload_n 3, 1) := by decide +kernel
theorem dL_law_862 : decode cL_law 862 = .ok (.iconst 1, 1) := by decide +kernel
theorem dL_law_863 : decode cL_law 863 = .ok (.iadd, 1) := by decide +kernel
theorem dL_law_864 : decode cL_law 864 = .ok (.iaload, 1) := by decide +kernel
theorem dL_law_865 : decode cL_law 865 = .ok (.aload_n 0, 1) := by decide +kernel
theorem dL_law_866 : decode cL_law 866 = .ok (.iload_n 3, 1) := by decide +kernel
theorem dL_law_867 : decode cL_law 867 = .ok (.iconst 2, 1) := by decide +kernel
theorem dL_law_868 : decode cL_law 868 = .ok (.iadd, 1) := by decide +kernel
theorem dL_law_869 : decode cL_law 869 = .ok (.iaload, 1) := by decide +kernel
theorem dL_law_870 : decode cL_law 870 = .ok (.invokevirtual 110, 3) := by decide +kernel
theorem dL_law_873 : decode cL_law 873 = .ok (.aload_n 2, 1) := by decide +kernel
theorem dL_law_874 : decode cL_law 874 = .ok (.aload_n 0, 1) := by decide +kernel
theorem dL_law_875 : decode cL_law 875 = .ok (.iload_n 3, 1) := by decide +kernel
theorem dL_law_876 : decode cL_law 876 = .ok (.iconst 1, 1) := by decide +kernel
theorem dL_law_877 : decode cL_law 877 = .ok (.iadd, 1) := by decide +kernel
theorem dL_law_878 : decode cL_law 878 = .ok (.iaload, 1) := by decide +kernel
theorem dL_law_879 : decode cL_law 879 = .ok (.aload_n 0, 1) := by decide +kernel
theorem dL_law_880 : decode cL_law 880 = .ok (.iload_n 3, 1) := by decide +kernel
theorem dL_law_881 : decode cL_law 881 = .ok (.iconst 2, 1) := by decide +kernel
theorem dL_law_882 : decode cL_law 882 = .ok (.iadd, 1) := by decide +kernel
theorem dL_law_883 : decode cL_law 883 = .ok (.iaload, 1) := by decide +kernel
theorem dL_law_884 : decode cL_law 884 = .ok (.invokevirtual 113, 3) := by decide +kernel
theorem dL_law_887 : decode cL_law 887 = .ok (.if_icmp .eq 77, 3) := by decide +kernel
theorem dL_law_890 : decode cL_law 890 = .ok (.iconst 0, 1) := by decide +kernel
theorem dL_law_891 : decode cL_law 891 = .ok (.ireturn, 1) := by decide +kernel
theorem dL_law_892 : decode cL_law 892 = .ok (.aload_n 1, 1) := by decide +kernel
theorem dL_law_893 : decode cL_law 893 = .ok (.aload_n 0, 1) := by decide +kernel
theorem dL_law_894 : decode cL_law 894 = .ok (.iload_n 3, 1) := by decide +kernel
theorem dL_law_895 : decode cL_law 895 = .ok (.iconst 1, 1) := by decide +kernel
theorem dL_law_896 : decode cL_law 896 = .ok (.iadd, 1) := by decide +kernel
theorem dL_law_897 : decode cL_law 897 = .ok (.iaload, 1) := by decide +kernel
theorem dL_law_898 : decode cL_law 898 = .ok (.invokevirtual 114, 3) := by decide +kernel
theorem dL_law_901 : decode cL_law 901 = .ok (.aload_n 2, 1) := by decide +kernel
theorem dL_law_902 : decode cL_law 902 = .ok (.aload_n 0, 1) := by decide +kernel
theorem dL_law_903 : decode cL_law 903 = .ok (.iload_n 3, 1) := by decide +kernel
theorem dL_law_904 : decode cL_law 904 = .ok (.iconst 1, 1) := by decide +kernel
theorem dL_law_905 : decode cL_law 905 = .ok (.iadd, 1) := by decide +kernel
theorem dL_law_906 : decode cL_law 906 = .ok (.iaload, 1) := by decide +kernel
theorem dL_law_907 : decode cL_law 907 = .ok (.invokevirtual 117, 3) := by decide +kernel
theorem dL_law_910 : decode cL_law 910 = .ok (.if_icmp .eq 54, 3) := by decide +kernel
theorem dL_law_913 : decode cL_law 913 = .ok (.iconst 0, 1) := by decide +kernel
theorem dL_law_914 : decode cL_law 914 = .ok (.ireturn, 1) := by decide +kernel
theorem dL_law_915 : decode cL_law 915 = .ok (.aload_n 1, 1) := by decide +kernel
theorem dL_law_916 : decode cL_law 916 = .ok (.invokevirtual 118, 3) := by decide +kernel
theorem dL_law_919 : decode cL_law 919 = .ok (.aload_n 2, 1) := by decide +kernel
theorem dL_law_920 : decode cL_law 920 = .ok (.invokevirtual 121, 3) := by decide +kernel
theorem dL_law_923 : decode cL_law 923 = .ok (.if_icmp .eq 41, 3) := by decide +kernel
theorem dL_law_926 : decode cL_law 926 = .ok (.iconst 0, 1) := by decide +kernel
theorem dL_law_927 : decode cL_law 927 = .ok (.ireturn, 1) := by decide +kernel
theorem dL_law_928 : decode cL_law 928 = .ok (.aload_n 1, 1) := by decide +kernel
theorem dL_law_929 : decode cL_law 929 = .ok (.aload_n 0, 1) := by decide +kernel
theorem dL_law_930 : decode cL_law 930 = .ok (.iload_n 3, 1) := by decide +kernel
theorem dL_law_931 : decode cL_law 931 = .ok (.iconst 1, 1) := by decide +kernel
theorem dL_law_932 : decode cL_law 932 = .ok (.iadd, 1) := by decide +kernel
theorem dL_law_933 : decode cL_law 933 = .ok (.iaload, 1) := by decide +kernel
theorem dL_law_934 : decode cL_law 934 = .ok (.invokevirtual 122, 3) := by decide +kernel
theorem dL_law_937 : decode cL_law 937 = .ok (.aload_n 2, 1) := by decide +kernel
theorem dL_law_938 : decode cL_law 938 = .ok (.aload_n 0, 1) := by decide +kernel
theorem dL_law_939 : decode cL_law 939 = .ok (.iload_n 3, 1) := by decide +kernel
theorem dL_law_940 : decode cL_law 940 = .ok (.iconst 1, 1) := by decide +kernel
theorem dL_law_941 : decode cL_law 941 = .ok (.iadd, 1) := by decide +kernel
theorem dL_law_942 : decode cL_law 942 = .ok (.iaload, 1) := by decide +kernel
theorem dL_law_943 : decode cL_law 943 = .ok (.invokevirtual 125, 3) := by decide +kernel
theorem dL_law_946 : decode cL_law 946 = .ok (.if_icmp .eq 18, 3) := by decide +kernel
theorem dL_law_949 : decode cL_law 949 = .ok (.iconst 0, 1) := by decide +kernel
theorem dL_law_950 : decode cL_law 950 = .ok (.ireturn, 1) := by decide +kernel
theorem dL_law_951 : decode cL_law 951 = .ok (.aload_n 1, 1) := by decide +kernel
theorem dL_law_952 : decode cL_law 952 = .ok (.invokevirtual 126, 3) := by decide +kernel
theorem dL_law_955 : decode cL_law 955 = .ok (.aload_n 2, 1) := by decide +kernel
theorem dL_law_956 : decode cL_law 956 = .ok (.invokevirtual 129, 3) := by decide +kernel
theorem dL_law_959 : decode cL_law 959 = .ok (.if_icmp .eq 5, 3) := by decide +kernel
theorem dL_law_962 : decode cL_law 962 = .ok (.iconst 0, 1) := by decide +kernel
theorem dL_law_963 : decode cL_law 963 = .ok (.ireturn, 1) := by decide +kernel
theorem dL_law_964 : decode cL_law 964 = .ok (.iinc 3 5, 3) := by decide +kernel
theorem dL_law_967 : decode cL_law 967 = .ok (.goto (-949), 3) := by decide +kernel
theorem dL_law_970 : decode cL_law 970 = .ok (.iconst 1, 1) := by decide +kernel
theorem dL_law_971 : decode cL_law 971 = .ok (.ireturn, 1) := by decide +kernel
def t_L_law_970 (bc bs : Nat) : am_T := tb_const 1 <|
  tb_zret
def t_L_law_964 (bc bs : Nat) : am_T := tb_iinc 3 5 <|
  tb_head 18
def t_L_law_951 (bc bs : Nat) : am_T := tb_aload 1 <|
  tb_callV 4 sp_X4_load 1 <|
  tb_aload 2 <|
  tb_callV 5 sp_X5_load 1 <|
  tb_ic (fun x y => x = y) (t_L_law_964 bc bs) <|
  tb_const 0 <|
  tb_zret
def t_L_law_928 (bc bs : Nat) : am_T := tb_aload 1 <|
  tb_aload 0 <|
  tb_iload 3 <|
  tb_const 1 <|
  tb_bin (fun x y => x + y) <|
  tb_iald <|
  tb_callV 4 sp_X4_fault 2 <|
  tb_aload 2 <|
  tb_aload 0 <|
  tb_iload 3 <|
  tb_const 1 <|
  tb_bin (fun x y => x + y) <|
  tb_iald <|
  tb_callV 5 sp_X5_fault 2 <|
  tb_ic (fun x y => x = y) (t_L_law_964 bc bs) <|
  tb_const 0 <|
  tb_zret
def t_L_law_915 (bc bs : Nat) : am_T := tb_aload 1 <|
  tb_callV 4 sp_X4_clearText 1 <|
  tb_aload 2 <|
  tb_callV 5 sp_X5_clearText 1 <|
  tb_ic (fun x y => x = y) (t_L_law_964 bc bs) <|
  tb_const 0 <|
  tb_zret
def t_L_law_892 (bc bs : Nat) : am_T := tb_aload 1 <|
  tb_aload 0 <|
  tb_iload 3 <|
  tb_const 1 <|
  tb_bin (fun x y => x + y) <|
  tb_iald <|
  tb_callV 4 sp_X4_type 2 <|
  tb_aload 2 <|
  tb_aload 0 <|
  tb_iload 3 <|
  tb_const 1 <|
  tb_bin (fun x y => x + y) <|
  tb_iald <|
  tb_callV 5 sp_X5_type 2 <|
  tb_ic (fun x y => x = y) (t_L_law_964 bc bs) <|
  tb_const 0 <|
  tb_zret
def t_L_law_859 (bc bs : Nat) : am_T := tb_aload 1 <|
  tb_aload 0 <|
  tb_iload 3 <|
  tb_const 1 <|
  tb_bin (fun x y => x + y) <|
  tb_iald <|
  tb_aload 0 <|
  tb_iload 3 <|
  tb_const 2 <|
  tb_bin (fun x y => x + y) <|
  tb_iald <|
  tb_callV 4 sp_X4_parting 3 <|
  tb_aload 2 <|
  tb_aload 0 <|
  tb_iload 3 <|
  tb_const 1 <|
  tb_bin (fun x y => x + y) <|
  tb_iald <|
  tb_aload 0 <|
  tb_iload 3 <|
  tb_const 2 <|
  tb_bin (fun x y => x + y) <|
  tb_iald <|
  tb_callV 5 sp_X5_parting 3 <|
  tb_ic (fun x y => x = y) (t_L_law_964 bc bs) <|
  tb_const 0 <|
  tb_zret
def t_L_law_836 (bc bs : Nat) : am_T := tb_aload 1 <|
  tb_aload 0 <|
  tb_iload 3 <|
  tb_const 1 <|
  tb_bin (fun x y => x + y) <|
  tb_iald <|
  tb_callV 4 sp_X4_threadsWithout 2 <|
  tb_aload 2 <|
  tb_aload 0 <|
  tb_iload 3 <|
  tb_const 1 <|
  tb_bin (fun x y => x + y) <|
  tb_iald <|
  tb_callV 5 sp_X5_threadsWithout 2 <|
  tb_ic (fun x y => x = y) (t_L_law_964 bc bs) <|
  tb_const 0 <|
  tb_zret
def t_L_law_803 (bc bs : Nat) : am_T := tb_aload 1 <|
  tb_aload 0 <|
  tb_iload 3 <|
  tb_const 1 <|
  tb_bin (fun x y => x + y) <|
  tb_iald <|
  tb_aload 0 <|
  tb_iload 3 <|
  tb_const 2 <|
  tb_bin (fun x y => x + y) <|
  tb_iald <|
  tb_callV 4 sp_X4_threadsWith 3 <|
  tb_aload 2 <|
  tb_aload 0 <|
  tb_iload 3 <|
  tb_const 1 <|
  tb_bin (fun x y => x + y) <|
  tb_iald <|
  tb_aload 0 <|
  tb_iload 3 <|
  tb_const 2 <|
  tb_bin (fun x y => x + y) <|
  tb_iald <|
  tb_callV 5 sp_X5_threadsWith 3 <|
  tb_ic (fun x y => x = y) (t_L_law_964 bc bs) <|
  tb_const 0 <|
  tb_zret
def t_L_law_780 (bc bs : Nat) : am_T := tb_aload 1 <|
  tb_aload 0 <|
  tb_iload 3 <|
  tb_const 1 <|
  tb_bin (fun x y => x + y) <|
  tb_iald <|
  tb_callV 4 sp_X4_awake 2 <|
  tb_aload 2 <|
  tb_aload 0 <|
  tb_iload 3 <|
  tb_const 1 <|
  tb_bin (fun x y => x + y) <|
  tb_iald <|
  tb_callV 5 sp_X5_awake 2 <|
  tb_ic (fun x y => x = y) (t_L_law_964 bc bs) <|
  tb_const 0 <|
  tb_zret
def t_L_law_757 (bc bs : Nat) : am_T := tb_aload 1 <|
  tb_aload 0 <|
  tb_iload 3 <|
  tb_const 1 <|
  tb_bin (fun x y => x + y) <|
  tb_iald <|
  tb_callV 4 sp_X4_partner 2 <|
  tb_aload 2 <|
  tb_aload 0 <|
  tb_iload 3 <|
  tb_const 1 <|
  tb_bin (fun x y => x + y) <|
  tb_iald <|
  tb_callV 5 sp_X5_partner 2 <|
  tb_ic (fun x y => x = y) (t_L_law_964 bc bs) <|
  tb_const 0 <|
  tb_zret
def t_L_law_724 (bc bs : Nat) : am_T := tb_aload 1 <|
  tb_aload 0 <|
  tb_iload 3 <|
  tb_const 1 <|
  tb_bin (fun x y => x + y) <|
  tb_iald <|
  tb_aload 0 <|
  tb_iload 3 <|
  tb_const 2 <|
  tb_bin (fun x y => x + y) <|
  tb_iald <|
  tb_callV 4 sp_X4_answers 3 <|
  tb_aload 2 <|
  tb_aload 0 <|
  tb_iload 3 <|
  tb_const 1 <|
  tb_bin (fun x y => x + y) <|
  tb_iald <|
  tb_aload 0 <|
  tb_iload 3 <|
  tb_const 2 <|
  tb_bin (fun x y => x + y) <|
  tb_iald <|
  tb_callV 5 sp_X5_answers 3 <|
  tb_ic (fun x y => x = y) (t_L_law_964 bc bs) <|
  tb_const 0 <|
  tb_zret
def t_L_law_701 (bc bs : Nat) : am_T := tb_aload 1 <|
  tb_aload 0 <|
  tb_iload 3 <|
  tb_const 1 <|
  tb_bin (fun x y => x + y) <|
  tb_iald <|
  tb_callV 4 sp_X4_busiest 2 <|
  tb_aload 2 <|
  tb_aload 0 <|
  tb_iload 3 <|
  tb_const 1 <|
  tb_bin (fun x y => x + y) <|
  tb_iald <|
  tb_callV 5 sp_X5_busiest 2 <|
  tb_ic (fun x y => x = y) (t_L_law_964 bc bs) <|
  tb_const 0 <|
  tb_zret
def t_L_law_668 (bc bs : Nat) : am_T := tb_aload 1 <|
  tb_aload 0 <|
  tb_iload 3 <|
  tb_const 1 <|
  tb_bin (fun x y => x + y) <|
  tb_iald <|
  tb_aload 0 <|
  tb_iload 3 <|
  tb_const 2 <|
  tb_bin (fun x y => x + y) <|
  tb_iald <|
  tb_callV 4 sp_X4_lineIn 3 <|
  tb_aload 2 <|
  tb_aload 0 <|
  tb_iload 3 <|
  tb_const 1 <|
  tb_bin (fun x y => x + y) <|
  tb_iald <|
  tb_aload 0 <|
  tb_iload 3 <|
  tb_const 2 <|
  tb_bin (fun x y => x + y) <|
  tb_iald <|
  tb_callV 5 sp_X5_lineIn 3 <|
  tb_ic (fun x y => x = y) (t_L_law_964 bc bs) <|
  tb_const 0 <|
  tb_zret
def t_L_law_635 (bc bs : Nat) : am_T := tb_aload 1 <|
  tb_aload 0 <|
  tb_iload 3 <|
  tb_const 1 <|
  tb_bin (fun x y => x + y) <|
  tb_iald <|
  tb_aload 0 <|
  tb_iload 3 <|
  tb_const 2 <|
  tb_bin (fun x y => x + y) <|
  tb_iald <|
  tb_callV 4 sp_X4_threadOf 3 <|
  tb_aload 2 <|
  tb_aload 0 <|
  tb_iload 3 <|
  tb_const 1 <|
  tb_bin (fun x y => x + y) <|
  tb_iald <|
  tb_aload 0 <|
  tb_iload 3 <|
  tb_const 2 <|
  tb_bin (fun x y => x + y) <|
  tb_iald <|
  tb_callV 5 sp_X5_threadOf 3 <|
  tb_ic (fun x y => x = y) (t_L_law_964 bc bs) <|
  tb_const 0 <|
  tb_zret
def t_L_law_602 (bc bs : Nat) : am_T := tb_aload 1 <|
  tb_aload 0 <|
  tb_iload 3 <|
  tb_const 1 <|
  tb_bin (fun x y => x + y) <|
  tb_iald <|
  tb_aload 0 <|
  tb_iload 3 <|
  tb_const 2 <|
  tb_bin (fun x y => x + y) <|
  tb_iald <|
  tb_callV 4 sp_X4_correction 3 <|
  tb_aload 2 <|
  tb_aload 0 <|
  tb_iload 3 <|
  tb_const 1 <|
  tb_bin (fun x y => x + y) <|
  tb_iald <|
  tb_aload 0 <|
  tb_iload 3 <|
  tb_const 2 <|
  tb_bin (fun x y => x + y) <|
  tb_iald <|
  tb_callV 5 sp_X5_correction 3 <|
  tb_ic (fun x y => x = y) (t_L_law_964 bc bs) <|
  tb_const 0 <|
  tb_zret
def t_L_law_579 (bc bs : Nat) : am_T := tb_aload 1 <|
  tb_aload 0 <|
  tb_iload 3 <|
  tb_const 1 <|
  tb_bin (fun x y => x + y) <|
  tb_iald <|
  tb_callV 4 sp_X4_withdraw 2 <|
  tb_aload 2 <|
  tb_aload 0 <|
  tb_iload 3 <|
  tb_const 1 <|
  tb_bin (fun x y => x + y) <|
  tb_iald <|
  tb_callV 5 sp_X5_withdraw 2 <|
  tb_ic (fun x y => x = y) (t_L_law_964 bc bs) <|
  tb_const 0 <|
  tb_zret
def t_L_law_536 (bc bs : Nat) : am_T := tb_aload 1 <|
  tb_aload 0 <|
  tb_iload 3 <|
  tb_const 1 <|
  tb_bin (fun x y => x + y) <|
  tb_iald <|
  tb_aload 0 <|
  tb_iload 3 <|
  tb_const 2 <|
  tb_bin (fun x y => x + y) <|
  tb_iald <|
  tb_aload 0 <|
  tb_iload 3 <|
  tb_const 3 <|
  tb_bin (fun x y => x + y) <|
  tb_iald <|
  tb_callV 4 sp_X4_correct 4 <|
  tb_aload 2 <|
  tb_aload 0 <|
  tb_iload 3 <|
  tb_const 1 <|
  tb_bin (fun x y => x + y) <|
  tb_iald <|
  tb_aload 0 <|
  tb_iload 3 <|
  tb_const 2 <|
  tb_bin (fun x y => x + y) <|
  tb_iald <|
  tb_aload 0 <|
  tb_iload 3 <|
  tb_const 3 <|
  tb_bin (fun x y => x + y) <|
  tb_iald <|
  tb_callV 5 sp_X5_correct 4 <|
  tb_ic (fun x y => x = y) (t_L_law_964 bc bs) <|
  tb_const 0 <|
  tb_zret
def t_L_law_523 (bc bs : Nat) : am_T := tb_aload 1 <|
  tb_callV 4 sp_X4_undo 1 <|
  tb_aload 2 <|
  tb_callV 5 sp_X5_undo 1 <|
  tb_ic (fun x y => x = y) (t_L_law_964 bc bs) <|
  tb_const 0 <|
  tb_zret
def t_L_law_500 (bc bs : Nat) : am_T := tb_aload 1 <|
  tb_aload 0 <|
  tb_iload 3 <|
  tb_const 1 <|
  tb_bin (fun x y => x + y) <|
  tb_iald <|
  tb_callV 4 sp_X4_count 2 <|
  tb_aload 2 <|
  tb_aload 0 <|
  tb_iload 3 <|
  tb_const 1 <|
  tb_bin (fun x y => x + y) <|
  tb_iald <|
  tb_callV 5 sp_X5_count 2 <|
  tb_ic (fun x y => x = y) (t_L_law_964 bc bs) <|
  tb_const 0 <|
  tb_zret
def t_L_law_467 (bc bs : Nat) : am_T := tb_aload 1 <|
  tb_aload 0 <|
  tb_iload 3 <|
  tb_const 1 <|
  tb_bin (fun x y => x + y) <|
  tb_iald <|
  tb_aload 0 <|
  tb_iload 3 <|
  tb_const 2 <|
  tb_bin (fun x y => x + y) <|
  tb_iald <|
  tb_callV 4 sp_X4_set 3 <|
  tb_aload 2 <|
  tb_aload 0 <|
  tb_iload 3 <|
  tb_const 1 <|
  tb_bin (fun x y => x + y) <|
  tb_iald <|
  tb_aload 0 <|
  tb_iload 3 <|
  tb_const 2 <|
  tb_bin (fun x y => x + y) <|
  tb_iald <|
  tb_callV 5 sp_X5_set 3 <|
  tb_ic (fun x y => x = y) (t_L_law_964 bc bs) <|
  tb_const 0 <|
  tb_zret
def t_L_law_434 (bc bs : Nat) : am_T := tb_aload 1 <|
  tb_aload 0 <|
  tb_iload 3 <|
  tb_const 1 <|
  tb_bin (fun x y => x + y) <|
  tb_iald <|
  tb_aload 0 <|
  tb_iload 3 <|
  tb_const 2 <|
  tb_bin (fun x y => x + y) <|
  tb_iald <|
  tb_callV 4 sp_X4_reason 3 <|
  tb_aload 2 <|
  tb_aload 0 <|
  tb_iload 3 <|
  tb_const 1 <|
  tb_bin (fun x y => x + y) <|
  tb_iald <|
  tb_aload 0 <|
  tb_iload 3 <|
  tb_const 2 <|
  tb_bin (fun x y => x + y) <|
  tb_iald <|
  tb_callV 5 sp_X5_reason 3 <|
  tb_ic (fun x y => x = y) (t_L_law_964 bc bs) <|
  tb_const 0 <|
  tb_zret
def t_L_law_401 (bc bs : Nat) : am_T := tb_aload 1 <|
  tb_aload 0 <|
  tb_iload 3 <|
  tb_const 1 <|
  tb_bin (fun x y => x + y) <|
  tb_iald <|
  tb_aload 0 <|
  tb_iload 3 <|
  tb_const 2 <|
  tb_bin (fun x y => x + y) <|
  tb_iald <|
  tb_callV 4 sp_X4_score 3 <|
  tb_aload 2 <|
  tb_aload 0 <|
  tb_iload 3 <|
  tb_const 1 <|
  tb_bin (fun x y => x + y) <|
  tb_iald <|
  tb_aload 0 <|
  tb_iload 3 <|
  tb_const 2 <|
  tb_bin (fun x y => x + y) <|
  tb_iald <|
  tb_callV 5 sp_X5_score 3 <|
  tb_ic (fun x y => x = y) (t_L_law_964 bc bs) <|
  tb_const 0 <|
  tb_zret
def t_L_law_378 (bc bs : Nat) : am_T := tb_aload 1 <|
  tb_aload 0 <|
  tb_iload 3 <|
  tb_const 1 <|
  tb_bin (fun x y => x + y) <|
  tb_iald <|
  tb_callV 4 sp_X4_inOrder 2 <|
  tb_aload 2 <|
  tb_aload 0 <|
  tb_iload 3 <|
  tb_const 1 <|
  tb_bin (fun x y => x + y) <|
  tb_iald <|
  tb_callV 5 sp_X5_inOrder 2 <|
  tb_ic (fun x y => x = y) (t_L_law_964 bc bs) <|
  tb_const 0 <|
  tb_zret
def t_L_law_345 (bc bs : Nat) : am_T := tb_aload 1 <|
  tb_aload 0 <|
  tb_iload 3 <|
  tb_const 1 <|
  tb_bin (fun x y => x + y) <|
  tb_iald <|
  tb_aload 0 <|
  tb_iload 3 <|
  tb_const 2 <|
  tb_bin (fun x y => x + y) <|
  tb_iald <|
  tb_callV 4 sp_X4_lineOf 3 <|
  tb_aload 2 <|
  tb_aload 0 <|
  tb_iload 3 <|
  tb_const 1 <|
  tb_bin (fun x y => x + y) <|
  tb_iald <|
  tb_aload 0 <|
  tb_iload 3 <|
  tb_const 2 <|
  tb_bin (fun x y => x + y) <|
  tb_iald <|
  tb_callV 5 sp_X5_lineOf 3 <|
  tb_ic (fun x y => x = y) (t_L_law_964 bc bs) <|
  tb_const 0 <|
  tb_zret
def t_L_law_322 (bc bs : Nat) : am_T := tb_aload 1 <|
  tb_aload 0 <|
  tb_iload 3 <|
  tb_const 1 <|
  tb_bin (fun x y => x + y) <|
  tb_iald <|
  tb_callV 4 sp_X4_drop 2 <|
  tb_aload 2 <|
  tb_aload 0 <|
  tb_iload 3 <|
  tb_const 1 <|
  tb_bin (fun x y => x + y) <|
  tb_iald <|
  tb_callV 5 sp_X5_drop 2 <|
  tb_ic (fun x y => x = y) (t_L_law_964 bc bs) <|
  tb_const 0 <|
  tb_zret
def t_L_law_269 (bc bs : Nat) : am_T := tb_aload 1 <|
  tb_aload 0 <|
  tb_iload 3 <|
  tb_const 1 <|
  tb_bin (fun x y => x + y) <|
  tb_iald <|
  tb_aload 0 <|
  tb_iload 3 <|
  tb_const 2 <|
  tb_bin (fun x y => x + y) <|
  tb_iald <|
  tb_aload 0 <|
  tb_iload 3 <|
  tb_const 3 <|
  tb_bin (fun x y => x + y) <|
  tb_iald <|
  tb_aload 0 <|
  tb_iload 3 <|
  tb_const 4 <|
  tb_bin (fun x y => x + y) <|
  tb_iald <|
  tb_callV 4 sp_X4_line 5 <|
  tb_aload 2 <|
  tb_aload 0 <|
  tb_iload 3 <|
  tb_const 1 <|
  tb_bin (fun x y => x + y) <|
  tb_iald <|
  tb_aload 0 <|
  tb_iload 3 <|
  tb_const 2 <|
  tb_bin (fun x y => x + y) <|
  tb_iald <|
  tb_aload 0 <|
  tb_iload 3 <|
  tb_const 3 <|
  tb_bin (fun x y => x + y) <|
  tb_iald <|
  tb_aload 0 <|
  tb_iload 3 <|
  tb_const 4 <|
  tb_bin (fun x y => x + y) <|
  tb_iald <|
  tb_callV 5 sp_X5_line 5 <|
  tb_ic (fun x y => x = y) (t_L_law_964 bc bs) <|
  tb_const 0 <|
  tb_zret
def t_L_law_236 (bc bs : Nat) : am_T := tb_aload 1 <|
  tb_aload 0 <|
  tb_iload 3 <|
  tb_const 1 <|
  tb_bin (fun x y => x + y) <|
  tb_iald <|
  tb_aload 0 <|
  tb_iload 3 <|
  tb_const 2 <|
  tb_bin (fun x y => x + y) <|
  tb_iald <|
  tb_callV 4 sp_X4_whoHas 3 <|
  tb_aload 2 <|
  tb_aload 0 <|
  tb_iload 3 <|
  tb_const 1 <|
  tb_bin (fun x y => x + y) <|
  tb_iald <|
  tb_aload 0 <|
  tb_iload 3 <|
  tb_const 2 <|
  tb_bin (fun x y => x + y) <|
  tb_iald <|
  tb_callV 5 sp_X5_whoHas 3 <|
  tb_ic (fun x y => x = y) (t_L_law_964 bc bs) <|
  tb_const 0 <|
  tb_zret
def t_L_law_203 (bc bs : Nat) : am_T := tb_aload 1 <|
  tb_aload 0 <|
  tb_iload 3 <|
  tb_const 1 <|
  tb_bin (fun x y => x + y) <|
  tb_iald <|
  tb_aload 0 <|
  tb_iload 3 <|
  tb_const 2 <|
  tb_bin (fun x y => x + y) <|
  tb_iald <|
  tb_callV 4 sp_X4_nameOf 3 <|
  tb_aload 2 <|
  tb_aload 0 <|
  tb_iload 3 <|
  tb_const 1 <|
  tb_bin (fun x y => x + y) <|
  tb_iald <|
  tb_aload 0 <|
  tb_iload 3 <|
  tb_const 2 <|
  tb_bin (fun x y => x + y) <|
  tb_iald <|
  tb_callV 5 sp_X5_nameOf 3 <|
  tb_ic (fun x y => x = y) (t_L_law_964 bc bs) <|
  tb_const 0 <|
  tb_zret
def t_L_law_160 (bc bs : Nat) : am_T := tb_aload 1 <|
  tb_aload 0 <|
  tb_iload 3 <|
  tb_const 1 <|
  tb_bin (fun x y => x + y) <|
  tb_iald <|
  tb_aload 0 <|
  tb_iload 3 <|
  tb_const 2 <|
  tb_bin (fun x y => x + y) <|
  tb_iald <|
  tb_aload 0 <|
  tb_iload 3 <|
  tb_const 3 <|
  tb_bin (fun x y => x + y) <|
  tb_iald <|
  tb_callV 4 sp_X4_takes 4 <|
  tb_aload 2 <|
  tb_aload 0 <|
  tb_iload 3 <|
  tb_const 1 <|
  tb_bin (fun x y => x + y) <|
  tb_iald <|
  tb_aload 0 <|
  tb_iload 3 <|
  tb_const 2 <|
  tb_bin (fun x y => x + y) <|
  tb_iald <|
  tb_aload 0 <|
  tb_iload 3 <|
  tb_const 3 <|
  tb_bin (fun x y => x + y) <|
  tb_iald <|
  tb_callV 5 sp_X5_takes 4 <|
  tb_ic (fun x y => x = y) (t_L_law_964 bc bs) <|
  tb_const 0 <|
  tb_zret
def w_L_law_32 (bc bs : Nat) : Nat → am_T := fun j => match j with
    | 0 => t_L_law_160 bc bs
    | 1 => t_L_law_203 bc bs
    | 2 => t_L_law_236 bc bs
    | 3 => t_L_law_269 bc bs
    | 4 => t_L_law_322 bc bs
    | 5 => t_L_law_345 bc bs
    | 6 => t_L_law_378 bc bs
    | 7 => t_L_law_401 bc bs
    | 8 => t_L_law_434 bc bs
    | 9 => t_L_law_467 bc bs
    | 10 => t_L_law_500 bc bs
    | 11 => t_L_law_523 bc bs
    | 12 => t_L_law_536 bc bs
    | 13 => t_L_law_579 bc bs
    | 14 => t_L_law_602 bc bs
    | 15 => t_L_law_635 bc bs
    | 16 => t_L_law_668 bc bs
    | 17 => t_L_law_701 bc bs
    | 18 => t_L_law_724 bc bs
    | 19 => t_L_law_757 bc bs
    | 20 => t_L_law_780 bc bs
    | 21 => t_L_law_803 bc bs
    | 22 => t_L_law_836 bc bs
    | 23 => t_L_law_859 bc bs
    | 24 => t_L_law_892 bc bs
    | 25 => t_L_law_915 bc bs
    | 26 => t_L_law_928 bc bs
    | 27 => t_L_law_951 bc bs
    | _ => tb_bad
def v_L_law_32 : Nat → Nat := fun j => match j with
    | 0 => 160
    | 1 => 203
    | 2 => 236
    | 3 => 269
    | 4 => 322
    | 5 => 345
    | 6 => 378
    | 7 => 401
    | 8 => 434
    | 9 => 467
    | 10 => 500
    | 11 => 523
    | 12 => 536
    | 13 => 579
    | 14 => 602
    | 15 => 635
    | 16 => 668
    | 17 => 701
    | 18 => 724
    | 19 => 757
    | 20 => 780
    | 21 => 803
    | 22 => 836
    | 23 => 859
    | 24 => 892
    | 25 => 915
    | 26 => 928
    | 27 => 951
    | _ => 0
def t_L_law_18 (bc bs : Nat) : am_T := tb_iload 3 <|
  tb_aload 0 <|
  tb_alen <|
  tb_const 5 <|
  tb_bin (fun x y => x - y) <|
  tb_ic (fun x y => y < x) (t_L_law_970 bc bs) <|
  tb_aload 0 <|
  tb_iload 3 <|
  tb_iald <|
  tb_const 31 <|
  tb_bin (fun x y => x &&& y) <|
  tb_sw 0 27 (w_L_law_32 bc bs) (t_L_law_964 bc bs)
def t_L_law_0 (bc bs : Nat) : am_T := tb_new bc bs 4 <|
  tb_dup <|
  tb_callI bc bs 109 4200 sp_X4_init 1 <|
  tb_astore 1 <|
  tb_new bc bs 5 <|
  tb_dup <|
  tb_callI bc bs 14 2586 sp_X5_init 1 <|
  tb_astore 2 <|
  tb_const 0 <|
  tb_istore 3 <|
  tb_head 18
def h_L_law (bc bs : Nat) : am_Hd := fun h => if h = 0 then t_L_law_0 bc bs else if h = 18 then t_L_law_18 bc bs else tb_bad
theorem h_L_law_0 {bc bs : Nat} : h_L_law bc bs 0 = t_L_law_0 bc bs := rfl
theorem h_L_law_18 {bc bs : Nat} : h_L_law bc bs 18 = t_L_law_18 bc bs := rfl
theorem s_L_law_970 {G : am_G} {bc bs : Nat} {nm : String} (X : am_Cx G cL_law RL nm room_1 (some .boolean) 4 bc bs false) : am_S G 970 (t_L_law_970 bc bs) := by
  unfold t_L_law_970
  refine as_iconst (pc := 970) X dL_law_970 (by decide) ?_
  exact as_zretL (pc := 971) X rfl rfl dL_law_971
theorem s_L_law_964 {G : am_G} {bc bs : Nat} {nm : String} (X : am_Cx G cL_law RL nm room_1 (some .boolean) 4 bc bs false) : am_S G 964 (t_L_law_964 bc bs) := by
  unfold t_L_law_964
  refine as_iinc (pc := 964) X dL_law_964 (by decide) (by decide) ?_
  exact as_goto (pc := 967) X 18 dL_law_967 (by decide) (as_head)
theorem s_L_law_951 {G : am_G} {bc bs : Nat} {nm : String} (X : am_Cx G cL_law RL nm room_1 (some .boolean) 4 bc bs false) : am_S G 951 (t_L_law_951 bc bs) := by
  unfold t_L_law_951
  refine as_aload_n (pc := 951) X dL_law_951 rfl ?_
  refine as_callV (ci := 4) (np := 0) (ix := 126) (pc := 952) X ct_X4_load (Cn := (RX4, TX4, 7)) rfl ⟨rfl, rfl⟩ aw_728 aw_729 aw_730 aw_731 aw_59 (by decide +kernel) (by decide) dL_law_952 ?_
  refine as_aload_n (pc := 955) X dL_law_955 rfl ?_
  refine as_callV (ci := 5) (np := 0) (ix := 129) (pc := 956) X ct_X5_load (Cn := (RX5, TX5, 21)) rfl ⟨rfl, rfl⟩ aw_1082 aw_1083 aw_1084 aw_1085 aw_65 (by decide +kernel) (by decide) dL_law_956 ?_
  refine as_ic_eq (pc := 959) X 964 dL_law_959 (by decide) (s_L_law_964 X) ?_
  refine as_iconst (pc := 962) X dL_law_962 (by decide) ?_
  exact as_zretL (pc := 963) X rfl rfl dL_law_963
theorem s_L_law_928 {G : am_G} {bc bs : Nat} {nm : String} (X : am_Cx G cL_law RL nm room_1 (some .boolean) 4 bc bs false) : am_S G 928 (t_L_law_928 bc bs) := by
  unfold t_L_law_928
  refine as_aload_n (pc := 928) X dL_law_928 rfl ?_
  refine as_aload_n (pc := 929) X dL_law_929 rfl ?_
  refine as_iload_n (pc := 930) X dL_law_930 rfl ?_
  refine as_iconst (pc := 931) X dL_law_931 (by decide) ?_
  refine as_iadd (pc := 932) X dL_law_932 ?_
  refine as_iald (pc := 933) X dL_law_933 ?_
  refine as_callV (ci := 4) (np := 1) (ix := 122) (pc := 934) X ct_X4_fault (Cn := (RX4, TX4, 7)) rfl ⟨rfl, rfl⟩ aw_681 aw_682 aw_683 aw_684 aw_59 (by decide +kernel) (by decide) dL_law_934 ?_
  refine as_aload_n (pc := 937) X dL_law_937 rfl ?_
  refine as_aload_n (pc := 938) X dL_law_938 rfl ?_
  refine as_iload_n (pc := 939) X dL_law_939 rfl ?_
  refine as_iconst (pc := 940) X dL_law_940 (by decide) ?_
  refine as_iadd (pc := 941) X dL_law_941 ?_
  refine as_iald (pc := 942) X dL_law_942 ?_
  refine as_callV (ci := 5) (np := 1) (ix := 125) (pc := 943) X ct_X5_fault (Cn := (RX5, TX5, 21)) rfl ⟨rfl, rfl⟩ aw_1058 aw_1059 aw_1060 aw_1061 aw_65 (by decide +kernel) (by decide) dL_law_943 ?_
  refine as_ic_eq (pc := 946) X 964 dL_law_946 (by decide) (s_L_law_964 X) ?_
  refine as_iconst (pc := 949) X dL_law_949 (by decide) ?_
  exact as_zretL (pc := 950) X rfl rfl dL_law_950
theorem s_L_law_915 {G : am_G} {bc bs : Nat} {nm : String} (X : am_Cx G cL_law RL nm room_1 (some .boolean) 4 bc bs false) : am_S G 915 (t_L_law_915 bc bs) := by
  unfold t_L_law_915
  refine as_aload_n (pc := 915) X dL_law_915 rfl ?_
  refine as_callV (ci := 4) (np := 0) (ix := 118) (pc := 916) X ct_X4_clearText (Cn := (RX4, TX4, 7)) rfl ⟨rfl, rfl⟩ aw_677 aw_678 aw_679 aw_680 aw_59 (by decide +kernel) (by decide) dL_law_916 ?_
  refine as_aload_n (pc := 919) X dL_law_919 rfl ?_
  refine as_callV (ci := 5) (np := 0) (ix := 121) (pc := 920) X ct_X5_clearText (Cn := (RX5, TX5, 21)) rfl ⟨rfl, rfl⟩ aw_1054 aw_1055 aw_1056 aw_1057 aw_65 (by decide +kernel) (by decide) dL_law_920 ?_
  refine as_ic_eq (pc := 923) X 964 dL_law_923 (by decide) (s_L_law_964 X) ?_
  refine as_iconst (pc := 926) X dL_law_926 (by decide) ?_
  exact as_zretL (pc := 927) X rfl rfl dL_law_927
theorem s_L_law_892 {G : am_G} {bc bs : Nat} {nm : String} (X : am_Cx G cL_law RL nm room_1 (some .boolean) 4 bc bs false) : am_S G 892 (t_L_law_892 bc bs) := by
  unfold t_L_law_892
  refine as_aload_n (pc := 892) X dL_law_892 rfl ?_
  refine as_aload_n (pc := 893) X dL_law_893 rfl ?_
  refine as_iload_n (pc := 894) X dL_law_894 rfl ?_
  refine as_iconst (pc := 895) X dL_law_895 (by decide) ?_
  refine as_iadd (pc := 896) X dL_law_896 ?_
  refine as_iald (pc := 897) X dL_law_897 ?_
  refine as_callV (ci := 4) (np := 1) (ix := 114) (pc := 898) X ct_X4_type (Cn := (RX4, TX4, 7)) rfl ⟨rfl, rfl⟩ aw_669 aw_670 aw_671 aw_672 aw_59 (by decide +kernel) (by decide) dL_law_898 ?_
  refine as_aload_n (pc := 901) X dL_law_901 rfl ?_
  refine as_aload_n (pc := 902) X dL_law_902 rfl ?_
  refine as_iload_n (pc := 903) X dL_law_903 rfl ?_
  refine as_iconst (pc := 904) X dL_law_904 (by decide) ?_
  refine as_iadd (pc := 905) X dL_law_905 ?_
  refine as_iald (pc := 906) X dL_law_906 ?_
  refine as_callV (ci := 5) (np := 1) (ix := 117) (pc := 907) X ct_X5_type (Cn := (RX5, TX5, 21)) rfl ⟨rfl, rfl⟩ aw_1050 aw_1051 aw_1052 aw_1053 aw_65 (by decide +kernel) (by decide) dL_law_907 ?_
  refine as_ic_eq (pc := 910) X 964 dL_law_910 (by decide) (s_L_law_964 X) ?_
  refine as_iconst (pc := 913) X dL_law_913 (by decide) ?_
  exact as_zretL (pc := 914) X rfl rfl dL_law_914
theorem s_L_law_859 {G : am_G} {bc bs : Nat} {nm : String} (X : am_Cx G cL_law RL nm room_1 (some .boolean) 4 bc bs false) : am_S G 859 (t_L_law_859 bc bs) := by
  unfold t_L_law_859
  refine as_aload_n (pc := 859) X dL_law_859 rfl ?_
  refine as_aload_n (pc := 860) X dL_law_860 rfl ?_
  refine as_iload_n (pc := 861) X dL_law_861 rfl ?_
  refine as_iconst (pc := 862) X dL_law_862 (by decide) ?_
  refine as_iadd (pc := 863) X dL_law_863 ?_
  refine as_iald (pc := 864) X dL_law_864 ?_
  refine as_aload_n (pc := 865) X dL_law_865 rfl ?_
  refine as_iload_n (pc := 866) X dL_law_866 rfl ?_
  refine as_iconst (pc := 867) X dL_law_867 (by decide) ?_
  refine as_iadd (pc := 868) X dL_law_868 ?_
  refine as_iald (pc := 869) X dL_law_869 ?_
  refine as_callV (ci := 4) (np := 2) (ix := 110) (pc := 870) X ct_X4_parting (Cn := (RX4, TX4, 7)) rfl ⟨rfl, rfl⟩ aw_661 aw_662 aw_663 aw_664 aw_59 (by decide +kernel) (by decide) dL_law_870 ?_
  refine as_aload_n (pc := 873) X dL_law_873 rfl ?_
  refine as_aload_n (pc := 874) X dL_law_874 rfl ?_
  refine as_iload_n (pc := 875) X dL_law_875 rfl ?_
  refine as_iconst (pc := 876) X dL_law_876 (by decide) ?_
  refine as_iadd (pc := 877) X dL_law_877 ?_
  refine as_iald (pc := 878) X dL_law_878 ?_
  refine as_aload_n (pc := 879) X dL_law_879 rfl ?_
  refine as_iload_n (pc := 880) X dL_law_880 rfl ?_
  refine as_iconst (pc := 881) X dL_law_881 (by decide) ?_
  refine as_iadd (pc := 882) X dL_law_882 ?_
  refine as_iald (pc := 883) X dL_law_883 ?_
  refine as_callV (ci := 5) (np := 2) (ix := 113) (pc := 884) X ct_X5_parting (Cn := (RX5, TX5, 21)) rfl ⟨rfl, rfl⟩ aw_1046 aw_1047 aw_1048 aw_1049 aw_65 (by decide +kernel) (by decide) dL_law_884 ?_
  refine as_ic_eq (pc := 887) X 964 dL_law_887 (by decide) (s_L_law_964 X) ?_
  refine as_iconst (pc := 890) X dL_law_890 (by decide) ?_
  exact as_zretL (pc := 891) X rfl rfl dL_law_891
theorem s_L_law_836 {G : am_G} {bc bs : Nat} {nm : String} (X : am_Cx G cL_law RL nm room_1 (some .boolean) 4 bc bs false) : am_S G 836 (t_L_law_836 bc bs) := by
  unfold t_L_law_836
  refine as_aload_n (pc := 836) X dL_law_836 rfl ?_
  refine as_aload_n (pc := 837) X dL_law_837 rfl ?_
  refine as_iload_n (pc := 838) X dL_law_838 rfl ?_
  refine as_iconst (pc := 839) X dL_law_839 (by decide) ?_
  refine as_iadd (pc := 840) X dL_law_840 ?_
  refine as_iald (pc := 841) X dL_law_841 ?_
  refine as_callV (ci := 4) (np := 1) (ix := 106) (pc := 842) X ct_X4_threadsWithout (Cn := (RX4, TX4, 7)) rfl ⟨rfl, rfl⟩ aw_657 aw_658 aw_659 aw_660 aw_59 (by decide +kernel) (by decide) dL_law_842 ?_
  refine as_aload_n (pc := 845) X dL_law_845 rfl ?_
  refine as_aload_n (pc := 846) X dL_law_846 rfl ?_
  refine as_iload_n (pc := 847) X dL_law_847 rfl ?_
  refine as_iconst (pc := 848) X dL_law_848 (by decide) ?_
  refine as_iadd (pc := 849) X dL_law_849 ?_
  refine as_iald (pc := 850) X dL_law_850 ?_
  refine as_callV (ci := 5) (np := 1) (ix := 109) (pc := 851) X ct_X5_threadsWithout (Cn := (RX5, TX5, 21)) rfl ⟨rfl, rfl⟩ aw_1042 aw_1043 aw_1044 aw_1045 aw_65 (by decide +kernel) (by decide) dL_law_851 ?_
  refine as_ic_eq (pc := 854) X 964 dL_law_854 (by decide) (s_L_law_964 X) ?_
  refine as_iconst (pc := 857) X dL_law_857 (by decide) ?_
  exact as_zretL (pc := 858) X rfl rfl dL_law_858
theorem s_L_law_803 {G : am_G} {bc bs : Nat} {nm : String} (X : am_Cx G cL_law RL nm room_1 (some .boolean) 4 bc bs false) : am_S G 803 (t_L_law_803 bc bs) := by
  unfold t_L_law_803
  refine as_aload_n (pc := 803) X dL_law_803 rfl ?_
  refine as_aload_n (pc := 804) X dL_law_804 rfl ?_
  refine as_iload_n (pc := 805) X dL_law_805 rfl ?_
  refine as_iconst (pc := 806) X dL_law_806 (by decide) ?_
  refine as_iadd (pc := 807) X dL_law_807 ?_
  refine as_iald (pc := 808) X dL_law_808 ?_
  refine as_aload_n (pc := 809) X dL_law_809 rfl ?_
  refine as_iload_n (pc := 810) X dL_law_810 rfl ?_
  refine as_iconst (pc := 811) X dL_law_811 (by decide) ?_
  refine as_iadd (pc := 812) X dL_law_812 ?_
  refine as_iald (pc := 813) X dL_law_813 ?_
  refine as_callV (ci := 4) (np := 2) (ix := 102) (pc := 814) X ct_X4_threadsWith (Cn := (RX4, TX4, 7)) rfl ⟨rfl, rfl⟩ aw_648 aw_649 aw_650 aw_651 aw_59 (by decide +kernel) (by decide) dL_law_814 ?_
  refine as_aload_n (pc := 817) X dL_law_817 rfl ?_
  refine as_aload_n (pc := 818) X dL_law_818 rfl ?_
  refine as_iload_n (pc := 819) X dL_law_819 rfl ?_
  refine as_iconst (pc := 820) X dL_law_820 (by decide) ?_
  refine as_iadd (pc := 821) X dL_law_821 ?_
  refine as_iald (pc := 822) X dL_law_822 ?_
  refine as_aload_n (pc := 823) X dL_law_823 rfl ?_
  refine as_iload_n (pc := 824) X dL_law_824 rfl ?_
  refine as_iconst (pc := 825) X dL_law_825 (by decide) ?_
  refine as_iadd (pc := 826) X dL_law_826 ?_
  refine as_iald (pc := 827) X dL_law_827 ?_
  refine as_callV (ci := 5) (np := 2) (ix := 105) (pc := 828) X ct_X5_threadsWith (Cn := (RX5, TX5, 21)) rfl ⟨rfl, rfl⟩ aw_1034 aw_1035 aw_1036 aw_1037 aw_65 (by decide +kernel) (by decide) dL_law_828 ?_
  refine as_ic_eq (pc := 831) X 964 dL_law_831 (by decide) (s_L_law_964 X) ?_
  refine as_iconst (pc := 834) X dL_law_834 (by decide) ?_
  exact as_zretL (pc := 835) X rfl rfl dL_law_835
theorem s_L_law_780 {G : am_G} {bc bs : Nat} {nm : String} (X : am_Cx G cL_law RL nm room_1 (some .boolean) 4 bc bs false) : am_S G 780 (t_L_law_780 bc bs) := by
  unfold t_L_law_780
  refine as_aload_n (pc := 780) X dL_law_780 rfl ?_
  refine as_aload_n (pc := 781) X dL_law_781 rfl ?_
  refine as_iload_n (pc := 782) X dL_law_782 rfl ?_
  refine as_iconst (pc := 783) X dL_law_783 (by decide) ?_
  refine as_iadd (pc := 784) X dL_law_784 ?_
  refine as_iald (pc := 785) X dL_law_785 ?_
  refine as_callV (ci := 4) (np := 1) (ix := 98) (pc := 786) X ct_X4_awake (Cn := (RX4, TX4, 7)) rfl ⟨rfl, rfl⟩ aw_640 aw_641 aw_642 aw_643 aw_59 (by decide +kernel) (by decide) dL_law_786 ?_
  refine as_aload_n (pc := 789) X dL_law_789 rfl ?_
  refine as_aload_n (pc := 790) X dL_law_790 rfl ?_
  refine as_iload_n (pc := 791) X dL_law_791 rfl ?_
  refine as_iconst (pc := 792) X dL_law_792 (by decide) ?_
  refine as_iadd (pc := 793) X dL_law_793 ?_
  refine as_iald (pc := 794) X dL_law_794 ?_
  refine as_callV (ci := 5) (np := 1) (ix := 101) (pc := 795) X ct_X5_awake (Cn := (RX5, TX5, 21)) rfl ⟨rfl, rfl⟩ aw_1030 aw_1031 aw_1032 aw_1033 aw_65 (by decide +kernel) (by decide) dL_law_795 ?_
  refine as_ic_eq (pc := 798) X 964 dL_law_798 (by decide) (s_L_law_964 X) ?_
  refine as_iconst (pc := 801) X dL_law_801 (by decide) ?_
  exact as_zretL (pc := 802) X rfl rfl dL_law_802
theorem s_L_law_757 {G : am_G} {bc bs : Nat} {nm : String} (X : am_Cx G cL_law RL nm room_1 (some .boolean) 4 bc bs false) : am_S G 757 (t_L_law_757 bc bs) := by
  unfold t_L_law_757
  refine as_aload_n (pc := 757) X dL_law_757 rfl ?_
  refine as_aload_n (pc := 758) X dL_law_758 rfl ?_
  refine as_iload_n (pc := 759) X dL_law_759 rfl ?_
  refine as_iconst (pc := 760) X dL_law_760 (by decide) ?_
  refine as_iadd (pc := 761) X dL_law_761 ?_
  refine as_iald (pc := 762) X dL_law_762 ?_
  refine as_callV (ci := 4) (np := 1) (ix := 94) (pc := 763) X ct_X4_partner (Cn := (RX4, TX4, 7)) rfl ⟨rfl, rfl⟩ aw_636 aw_637 aw_638 aw_639 aw_59 (by decide +kernel) (by decide) dL_law_763 ?_
  refine as_aload_n (pc := 766) X dL_law_766 rfl ?_
  refine as_aload_n (pc := 767) X dL_law_767 rfl ?_
  refine as_iload_n (pc := 768) X dL_law_768 rfl ?_
  refine as_iconst (pc := 769) X dL_law_769 (by decide) ?_
  refine as_iadd (pc := 770) X dL_law_770 ?_
  refine as_iald (pc := 771) X dL_law_771 ?_
  refine as_callV (ci := 5) (np := 1) (ix := 97) (pc := 772) X ct_X5_partner (Cn := (RX5, TX5, 21)) rfl ⟨rfl, rfl⟩ aw_1026 aw_1027 aw_1028 aw_1029 aw_65 (by decide +kernel) (by decide) dL_law_772 ?_
  refine as_ic_eq (pc := 775) X 964 dL_law_775 (by decide) (s_L_law_964 X) ?_
  refine as_iconst (pc := 778) X dL_law_778 (by decide) ?_
  exact as_zretL (pc := 779) X rfl rfl dL_law_779
theorem s_L_law_724 {G : am_G} {bc bs : Nat} {nm : String} (X : am_Cx G cL_law RL nm room_1 (some .boolean) 4 bc bs false) : am_S G 724 (t_L_law_724 bc bs) := by
  unfold t_L_law_724
  refine as_aload_n (pc := 724) X dL_law_724 rfl ?_
  refine as_aload_n (pc := 725) X dL_law_725 rfl ?_
  refine as_iload_n (pc := 726) X dL_law_726 rfl ?_
  refine as_iconst (pc := 727) X dL_law_727 (by decide) ?_
  refine as_iadd (pc := 728) X dL_law_728 ?_
  refine as_iald (pc := 729) X dL_law_729 ?_
  refine as_aload_n (pc := 730) X dL_law_730 rfl ?_
  refine as_iload_n (pc := 731) X dL_law_731 rfl ?_
  refine as_iconst (pc := 732) X dL_law_732 (by decide) ?_
  refine as_iadd (pc := 733) X dL_law_733 ?_
  refine as_iald (pc := 734) X dL_law_734 ?_
  refine as_callV (ci := 4) (np := 2) (ix := 90) (pc := 735) X ct_X4_answers (Cn := (RX4, TX4, 7)) rfl ⟨rfl, rfl⟩ aw_628 aw_629 aw_630 aw_631 aw_59 (by decide +kernel) (by decide) dL_law_735 ?_
  refine as_aload_n (pc := 738) X dL_law_738 rfl ?_
  refine as_aload_n (pc := 739) X dL_law_739 rfl ?_
  refine as_iload_n (pc := 740) X dL_law_740 rfl ?_
  refine as_iconst (pc := 741) X dL_law_741 (by decide) ?_
  refine as_iadd (pc := 742) X dL_law_742 ?_
  refine as_iald (pc := 743) X dL_law_743 ?_
  refine as_aload_n (pc := 744) X dL_law_744 rfl ?_
  refine as_iload_n (pc := 745) X dL_law_745 rfl ?_
  refine as_iconst (pc := 746) X dL_law_746 (by decide) ?_
  refine as_iadd (pc := 747) X dL_law_747 ?_
  refine as_iald (pc := 748) X dL_law_748 ?_
  refine as_callV (ci := 5) (np := 2) (ix := 93) (pc := 749) X ct_X5_answers (Cn := (RX5, TX5, 21)) rfl ⟨rfl, rfl⟩ aw_1018 aw_1019 aw_1020 aw_1021 aw_65 (by decide +kernel) (by decide) dL_law_749 ?_
  refine as_ic_eq (pc := 752) X 964 dL_law_752 (by decide) (s_L_law_964 X) ?_
  refine as_iconst (pc := 755) X dL_law_755 (by decide) ?_
  exact as_zretL (pc := 756) X rfl rfl dL_law_756
theorem s_L_law_701 {G : am_G} {bc bs : Nat} {nm : String} (X : am_Cx G cL_law RL nm room_1 (some .boolean) 4 bc bs false) : am_S G 701 (t_L_law_701 bc bs) := by
  unfold t_L_law_701
  refine as_aload_n (pc := 701) X dL_law_701 rfl ?_
  refine as_aload_n (pc := 702) X dL_law_702 rfl ?_
  refine as_iload_n (pc := 703) X dL_law_703 rfl ?_
  refine as_iconst (pc := 704) X dL_law_704 (by decide) ?_
  refine as_iadd (pc := 705) X dL_law_705 ?_
  refine as_iald (pc := 706) X dL_law_706 ?_
  refine as_callV (ci := 4) (np := 1) (ix := 86) (pc := 707) X ct_X4_busiest (Cn := (RX4, TX4, 7)) rfl ⟨rfl, rfl⟩ aw_616 aw_617 aw_618 aw_619 aw_59 (by decide +kernel) (by decide) dL_law_707 ?_
  refine as_aload_n (pc := 710) X dL_law_710 rfl ?_
  refine as_aload_n (pc := 711) X dL_law_711 rfl ?_
  refine as_iload_n (pc := 712) X dL_law_712 rfl ?_
  refine as_iconst (pc := 713) X dL_law_713 (by decide) ?_
  refine as_iadd (pc := 714) X dL_law_714 ?_
  refine as_iald (pc := 715) X dL_law_715 ?_
  refine as_callV (ci := 5) (np := 1) (ix := 89) (pc := 716) X ct_X5_busiest (Cn := (RX5, TX5, 21)) rfl ⟨rfl, rfl⟩ aw_1010 aw_1011 aw_1012 aw_1013 aw_65 (by decide +kernel) (by decide) dL_law_716 ?_
  refine as_ic_eq (pc := 719) X 964 dL_law_719 (by decide) (s_L_law_964 X) ?_
  refine as_iconst (pc := 722) X dL_law_722 (by decide) ?_
  exact as_zretL (pc := 723) X rfl rfl dL_law_723
theorem s_L_law_668 {G : am_G} {bc bs : Nat} {nm : String} (X : am_Cx G cL_law RL nm room_1 (some .boolean) 4 bc bs false) : am_S G 668 (t_L_law_668 bc bs) := by
  unfold t_L_law_668
  refine as_aload_n (pc := 668) X dL_law_668 rfl ?_
  refine as_aload_n (pc := 669) X dL_law_669 rfl ?_
  refine as_iload_n (pc := 670) X dL_law_670 rfl ?_
  refine as_iconst (pc := 671) X dL_law_671 (by decide) ?_
  refine as_iadd (pc := 672) X dL_law_672 ?_
  refine as_iald (pc := 673) X dL_law_673 ?_
  refine as_aload_n (pc := 674) X dL_law_674 rfl ?_
  refine as_iload_n (pc := 675) X dL_law_675 rfl ?_
  refine as_iconst (pc := 676) X dL_law_676 (by decide) ?_
  refine as_iadd (pc := 677) X dL_law_677 ?_
  refine as_iald (pc := 678) X dL_law_678 ?_
  refine as_callV (ci := 4) (np := 2) (ix := 82) (pc := 679) X ct_X4_lineIn (Cn := (RX4, TX4, 7)) rfl ⟨rfl, rfl⟩ aw_612 aw_613 aw_614 aw_615 aw_59 (by decide +kernel) (by decide) dL_law_679 ?_
  refine as_aload_n (pc := 682) X dL_law_682 rfl ?_
  refine as_aload_n (pc := 683) X dL_law_683 rfl ?_
  refine as_iload_n (pc := 684) X dL_law_684 rfl ?_
  refine as_iconst (pc := 685) X dL_law_685 (by decide) ?_
  refine as_iadd (pc := 686) X dL_law_686 ?_
  refine as_iald (pc := 687) X dL_law_687 ?_
  refine as_aload_n (pc := 688) X dL_law_688 rfl ?_
  refine as_iload_n (pc := 689) X dL_law_689 rfl ?_
  refine as_iconst (pc := 690) X dL_law_690 (by decide) ?_
  refine as_iadd (pc := 691) X dL_law_691 ?_
  refine as_iald (pc := 692) X dL_law_692 ?_
  refine as_callV (ci := 5) (np := 2) (ix := 85) (pc := 693) X ct_X5_lineIn (Cn := (RX5, TX5, 21)) rfl ⟨rfl, rfl⟩ aw_1006 aw_1007 aw_1008 aw_1009 aw_65 (by decide +kernel) (by decide) dL_law_693 ?_
  refine as_ic_eq (pc := 696) X 964 dL_law_696 (by decide) (s_L_law_964 X) ?_
  refine as_iconst (pc := 699) X dL_law_699 (by decide) ?_
  exact as_zretL (pc := 700) X rfl rfl dL_law_700
theorem s_L_law_635 {G : am_G} {bc bs : Nat} {nm : String} (X : am_Cx G cL_law RL nm room_1 (some .boolean) 4 bc bs false) : am_S G 635 (t_L_law_635 bc bs) := by
  unfold t_L_law_635
  refine as_aload_n (pc := 635) X dL_law_635 rfl ?_
  refine as_aload_n (pc := 636) X dL_law_636 rfl ?_
  refine as_iload_n (pc := 637) X dL_law_637 rfl ?_
  refine as_iconst (pc := 638) X dL_law_638 (by decide) ?_
  refine as_iadd (pc := 639) X dL_law_639 ?_
  refine as_iald (pc := 640) X dL_law_640 ?_
  refine as_aload_n (pc := 641) X dL_law_641 rfl ?_
  refine as_iload_n (pc := 642) X dL_law_642 rfl ?_
  refine as_iconst (pc := 643) X dL_law_643 (by decide) ?_
  refine as_iadd (pc := 644) X dL_law_644 ?_
  refine as_iald (pc := 645) X dL_law_645 ?_
  refine as_callV (ci := 4) (np := 2) (ix := 78) (pc := 646) X ct_X4_threadOf (Cn := (RX4, TX4, 7)) rfl ⟨rfl, rfl⟩ aw_583 aw_584 aw_585 aw_586 aw_59 (by decide +kernel) (by decide) dL_law_646 ?_
  refine as_aload_n (pc := 649) X dL_law_649 rfl ?_
  refine as_aload_n (pc := 650) X dL_law_650 rfl ?_
  refine as_iload_n (pc := 651) X dL_law_651 rfl ?_
  refine as_iconst (pc := 652) X dL_law_652 (by decide) ?_
  refine as_iadd (pc := 653) X dL_law_653 ?_
  refine as_iald (pc := 654) X dL_law_654 ?_
  refine as_aload_n (pc := 655) X dL_law_655 rfl ?_
  refine as_iload_n (pc := 656) X dL_law_656 rfl ?_
  refine as_iconst (pc := 657) X dL_law_657 (by decide) ?_
  refine as_iadd (pc := 658) X dL_law_658 ?_
  refine as_iald (pc := 659) X dL_law_659 ?_
  refine as_callV (ci := 5) (np := 2) (ix := 81) (pc := 660) X ct_X5_threadOf (Cn := (RX5, TX5, 21)) rfl ⟨rfl, rfl⟩ aw_986 aw_987 aw_988 aw_989 aw_65 (by decide +kernel) (by decide) dL_law_660 ?_
  refine as_ic_eq (pc := 663) X 964 dL_law_663 (by decide) (s_L_law_964 X) ?_
  refine as_iconst (pc := 666) X dL_law_666 (by decide) ?_
  exact as_zretL (pc := 667) X rfl rfl dL_law_667
theorem s_L_law_602 {G : am_G} {bc bs : Nat} {nm : String} (X : am_Cx G cL_law RL nm room_1 (some .boolean) 4 bc bs false) : am_S G 602 (t_L_law_602 bc bs) := by
  unfold t_L_law_602
  refine as_aload_n (pc := 602) X dL_law_602 rfl ?_
  refine as_aload_n (pc := 603) X dL_law_603 rfl ?_
  refine as_iload_n (pc := 604) X dL_law_604 rfl ?_
  refine as_iconst (pc := 605) X dL_law_605 (by decide) ?_
  refine as_iadd (pc := 606) X dL_law_606 ?_
  refine as_iald (pc := 607) X dL_law_607 ?_
  refine as_aload_n (pc := 608) X dL_law_608 rfl ?_
  refine as_iload_n (pc := 609) X dL_law_609 rfl ?_
  refine as_iconst (pc := 610) X dL_law_610 (by decide) ?_
  refine as_iadd (pc := 611) X dL_law_611 ?_
  refine as_iald (pc := 612) X dL_law_612 ?_
  refine as_callV (ci := 4) (np := 2) (ix := 74) (pc := 613) X ct_X4_correction (Cn := (RX4, TX4, 7)) rfl ⟨rfl, rfl⟩ aw_575 aw_576 aw_577 aw_578 aw_59 (by decide +kernel) (by decide) dL_law_613 ?_
  refine as_aload_n (pc := 616) X dL_law_616 rfl ?_
  refine as_aload_n (pc := 617) X dL_law_617 rfl ?_
  refine as_iload_n (pc := 618) X dL_law_618 rfl ?_
  refine as_iconst (pc := 619) X dL_law_619 (by decide) ?_
  refine as_iadd (pc := 620) X dL_law_620 ?_
  refine as_iald (pc := 621) X dL_law_621 ?_
  refine as_aload_n (pc := 622) X dL_law_622 rfl ?_
  refine as_iload_n (pc := 623) X dL_law_623 rfl ?_
  refine as_iconst (pc := 624) X dL_law_624 (by decide) ?_
  refine as_iadd (pc := 625) X dL_law_625 ?_
  refine as_iald (pc := 626) X dL_law_626 ?_
  refine as_callV (ci := 5) (np := 2) (ix := 77) (pc := 627) X ct_X5_correction (Cn := (RX5, TX5, 21)) rfl ⟨rfl, rfl⟩ aw_978 aw_979 aw_980 aw_981 aw_65 (by decide +kernel) (by decide) dL_law_627 ?_
  refine as_ic_eq (pc := 630) X 964 dL_law_630 (by decide) (s_L_law_964 X) ?_
  refine as_iconst (pc := 633) X dL_law_633 (by decide) ?_
  exact as_zretL (pc := 634) X rfl rfl dL_law_634
theorem s_L_law_579 {G : am_G} {bc bs : Nat} {nm : String} (X : am_Cx G cL_law RL nm room_1 (some .boolean) 4 bc bs false) : am_S G 579 (t_L_law_579 bc bs) := by
  unfold t_L_law_579
  refine as_aload_n (pc := 579) X dL_law_579 rfl ?_
  refine as_aload_n (pc := 580) X dL_law_580 rfl ?_
  refine as_iload_n (pc := 581) X dL_law_581 rfl ?_
  refine as_iconst (pc := 582) X dL_law_582 (by decide) ?_
  refine as_iadd (pc := 583) X dL_law_583 ?_
  refine as_iald (pc := 584) X dL_law_584 ?_
  refine as_callV (ci := 4) (np := 1) (ix := 70) (pc := 585) X ct_X4_withdraw (Cn := (RX4, TX4, 7)) rfl ⟨rfl, rfl⟩ aw_566 aw_567 aw_568 aw_569 aw_59 (by decide +kernel) (by decide) dL_law_585 ?_
  refine as_aload_n (pc := 588) X dL_law_588 rfl ?_
  refine as_aload_n (pc := 589) X dL_law_589 rfl ?_
  refine as_iload_n (pc := 590) X dL_law_590 rfl ?_
  refine as_iconst (pc := 591) X dL_law_591 (by decide) ?_
  refine as_iadd (pc := 592) X dL_law_592 ?_
  refine as_iald (pc := 593) X dL_law_593 ?_
  refine as_callV (ci := 5) (np := 1) (ix := 73) (pc := 594) X ct_X5_withdraw (Cn := (RX5, TX5, 21)) rfl ⟨rfl, rfl⟩ aw_974 aw_975 aw_976 aw_977 aw_65 (by decide +kernel) (by decide) dL_law_594 ?_
  refine as_ic_eq (pc := 597) X 964 dL_law_597 (by decide) (s_L_law_964 X) ?_
  refine as_iconst (pc := 600) X dL_law_600 (by decide) ?_
  exact as_zretL (pc := 601) X rfl rfl dL_law_601
theorem s_L_law_536 {G : am_G} {bc bs : Nat} {nm : String} (X : am_Cx G cL_law RL nm room_1 (some .boolean) 4 bc bs false) : am_S G 536 (t_L_law_536 bc bs) := by
  unfold t_L_law_536
  refine as_aload_n (pc := 536) X dL_law_536 rfl ?_
  refine as_aload_n (pc := 537) X dL_law_537 rfl ?_
  refine as_iload_n (pc := 538) X dL_law_538 rfl ?_
  refine as_iconst (pc := 539) X dL_law_539 (by decide) ?_
  refine as_iadd (pc := 540) X dL_law_540 ?_
  refine as_iald (pc := 541) X dL_law_541 ?_
  refine as_aload_n (pc := 542) X dL_law_542 rfl ?_
  refine as_iload_n (pc := 543) X dL_law_543 rfl ?_
  refine as_iconst (pc := 544) X dL_law_544 (by decide) ?_
  refine as_iadd (pc := 545) X dL_law_545 ?_
  refine as_iald (pc := 546) X dL_law_546 ?_
  refine as_aload_n (pc := 547) X dL_law_547 rfl ?_
  refine as_iload_n (pc := 548) X dL_law_548 rfl ?_
  refine as_iconst (pc := 549) X dL_law_549 (by decide) ?_
  refine as_iadd (pc := 550) X dL_law_550 ?_
  refine as_iald (pc := 551) X dL_law_551 ?_
  refine as_callV (ci := 4) (np := 3) (ix := 66) (pc := 552) X ct_X4_correct (Cn := (RX4, TX4, 7)) rfl ⟨rfl, rfl⟩ aw_552 aw_553 aw_554 aw_555 aw_59 (by decide +kernel) (by decide) dL_law_552 ?_
  refine as_aload_n (pc := 555) X dL_law_555 rfl ?_
  refine as_aload_n (pc := 556) X dL_law_556 rfl ?_
  refine as_iload_n (pc := 557) X dL_law_557 rfl ?_
  refine as_iconst (pc := 558) X dL_law_558 (by decide) ?_
  refine as_iadd (pc := 559) X dL_law_559 ?_
  refine as_iald (pc := 560) X dL_law_560 ?_
  refine as_aload_n (pc := 561) X dL_law_561 rfl ?_
  refine as_iload_n (pc := 562) X dL_law_562 rfl ?_
  refine as_iconst (pc := 563) X dL_law_563 (by decide) ?_
  refine as_iadd (pc := 564) X dL_law_564 ?_
  refine as_iald (pc := 565) X dL_law_565 ?_
  refine as_aload_n (pc := 566) X dL_law_566 rfl ?_
  refine as_iload_n (pc := 567) X dL_law_567 rfl ?_
  refine as_iconst (pc := 568) X dL_law_568 (by decide) ?_
  refine as_iadd (pc := 569) X dL_law_569 ?_
  refine as_iald (pc := 570) X dL_law_570 ?_
  refine as_callV (ci := 5) (np := 3) (ix := 69) (pc := 571) X ct_X5_correct (Cn := (RX5, TX5, 21)) rfl ⟨rfl, rfl⟩ aw_958 aw_959 aw_960 aw_961 aw_65 (by decide +kernel) (by decide) dL_law_571 ?_
  refine as_ic_eq (pc := 574) X 964 dL_law_574 (by decide) (s_L_law_964 X) ?_
  refine as_iconst (pc := 577) X dL_law_577 (by decide) ?_
  exact as_zretL (pc := 578) X rfl rfl dL_law_578
theorem s_L_law_523 {G : am_G} {bc bs : Nat} {nm : String} (X : am_Cx G cL_law RL nm room_1 (some .boolean) 4 bc bs false) : am_S G 523 (t_L_law_523 bc bs) := by
  unfold t_L_law_523
  refine as_aload_n (pc := 523) X dL_law_523 rfl ?_
  refine as_callV (ci := 4) (np := 0) (ix := 61) (pc := 524) X ct_X4_undo (Cn := (RX4, TX4, 7)) rfl ⟨rfl, rfl⟩ aw_544 aw_545 aw_546 aw_547 aw_59 (by decide +kernel) (by decide) dL_law_524 ?_
  refine as_aload_n (pc := 527) X dL_law_527 rfl ?_
  refine as_callV (ci := 5) (np := 0) (ix := 65) (pc := 528) X ct_X5_undo (Cn := (RX5, TX5, 21)) rfl ⟨rfl, rfl⟩ aw_954 aw_955 aw_956 aw_957 aw_65 (by decide +kernel) (by decide) dL_law_528 ?_
  refine as_ic_eq (pc := 531) X 964 dL_law_531 (by decide) (s_L_law_964 X) ?_
  refine as_iconst (pc := 534) X dL_law_534 (by decide) ?_
  exact as_zretL (pc := 535) X rfl rfl dL_law_535
theorem s_L_law_500 {G : am_G} {bc bs : Nat} {nm : String} (X : am_Cx G cL_law RL nm room_1 (some .boolean) 4 bc bs false) : am_S G 500 (t_L_law_500 bc bs) := by
  unfold t_L_law_500
  refine as_aload_n (pc := 500) X dL_law_500 rfl ?_
  refine as_aload_n (pc := 501) X dL_law_501 rfl ?_
  refine as_iload_n (pc := 502) X dL_law_502 rfl ?_
  refine as_iconst (pc := 503) X dL_law_503 (by decide) ?_
  refine as_iadd (pc := 504) X dL_law_504 ?_
  refine as_iald (pc := 505) X dL_law_505 ?_
  refine as_callV (ci := 4) (np := 1) (ix := 57) (pc := 506) X ct_X4_count (Cn := (RX4, TX4, 7)) rfl ⟨rfl, rfl⟩ aw_526 aw_527 aw_528 aw_529 aw_59 (by decide +kernel) (by decide) dL_law_506 ?_
  refine as_aload_n (pc := 509) X dL_law_509 rfl ?_
  refine as_aload_n (pc := 510) X dL_law_510 rfl ?_
  refine as_iload_n (pc := 511) X dL_law_511 rfl ?_
  refine as_iconst (pc := 512) X dL_law_512 (by decide) ?_
  refine as_iadd (pc := 513) X dL_law_513 ?_
  refine as_iald (pc := 514) X dL_law_514 ?_
  refine as_callV (ci := 5) (np := 1) (ix := 60) (pc := 515) X ct_X5_count (Cn := (RX5, TX5, 21)) rfl ⟨rfl, rfl⟩ aw_946 aw_947 aw_948 aw_949 aw_65 (by decide +kernel) (by decide) dL_law_515 ?_
  refine as_ic_eq (pc := 518) X 964 dL_law_518 (by decide) (s_L_law_964 X) ?_
  refine as_iconst (pc := 521) X dL_law_521 (by decide) ?_
  exact as_zretL (pc := 522) X rfl rfl dL_law_522
theorem s_L_law_467 {G : am_G} {bc bs : Nat} {nm : String} (X : am_Cx G cL_law RL nm room_1 (some .boolean) 4 bc bs false) : am_S G 467 (t_L_law_467 bc bs) := by
  unfold t_L_law_467
  refine as_aload_n (pc := 467) X dL_law_467 rfl ?_
  refine as_aload_n (pc := 468) X dL_law_468 rfl ?_
  refine as_iload_n (pc := 469) X dL_law_469 rfl ?_
  refine as_iconst (pc := 470) X dL_law_470 (by decide) ?_
  refine as_iadd (pc := 471) X dL_law_471 ?_
  refine as_iald (pc := 472) X dL_law_472 ?_
  refine as_aload_n (pc := 473) X dL_law_473 rfl ?_
  refine as_iload_n (pc := 474) X dL_law_474 rfl ?_
  refine as_iconst (pc := 475) X dL_law_475 (by decide) ?_
  refine as_iadd (pc := 476) X dL_law_476 ?_
  refine as_iald (pc := 477) X dL_law_477 ?_
  refine as_callV (ci := 4) (np := 2) (ix := 53) (pc := 478) X ct_X4_set (Cn := (RX4, TX4, 7)) rfl ⟨rfl, rfl⟩ aw_515 aw_516 aw_517 aw_518 aw_59 (by decide +kernel) (by decide) dL_law_478 ?_
  refine as_aload_n (pc := 481) X dL_law_481 rfl ?_
  refine as_aload_n (pc := 482) X dL_law_482 rfl ?_
  refine as_iload_n (pc := 483) X dL_law_483 rfl ?_
  refine as_iconst (pc := 484) X dL_law_484 (by decide) ?_
  refine as_iadd (pc := 485) X dL_law_485 ?_
  refine as_iald (pc := 486) X dL_law_486 ?_
  refine as_aload_n (pc := 487) X dL_law_487 rfl ?_
  refine as_iload_n (pc := 488) X dL_law_488 rfl ?_
  refine as_iconst (pc := 489) X dL_law_489 (by decide) ?_
  refine as_iadd (pc := 490) X dL_law_490 ?_
  refine as_iald (pc := 491) X dL_law_491 ?_
  refine as_callV (ci := 5) (np := 2) (ix := 56) (pc := 492) X ct_X5_set (Cn := (RX5, TX5, 21)) rfl ⟨rfl, rfl⟩ aw_936 aw_937 aw_938 aw_939 aw_65 (by decide +kernel) (by decide) dL_law_492 ?_
  refine as_ic_eq (pc := 495) X 964 dL_law_495 (by decide) (s_L_law_964 X) ?_
  refine as_iconst (pc := 498) X dL_law_498 (by decide) ?_
  exact as_zretL (pc := 499) X rfl rfl dL_law_499
theorem s_L_law_434 {G : am_G} {bc bs : Nat} {nm : String} (X : am_Cx G cL_law RL nm room_1 (some .boolean) 4 bc bs false) : am_S G 434 (t_L_law_434 bc bs) := by
  unfold t_L_law_434
  refine as_aload_n (pc := 434) X dL_law_434 rfl ?_
  refine as_aload_n (pc := 435) X dL_law_435 rfl ?_
  refine as_iload_n (pc := 436) X dL_law_436 rfl ?_
  refine as_iconst (pc := 437) X dL_law_437 (by decide) ?_
  refine as_iadd (pc := 438) X dL_law_438 ?_
  refine as_iald (pc := 439) X dL_law_439 ?_
  refine as_aload_n (pc := 440) X dL_law_440 rfl ?_
  refine as_iload_n (pc := 441) X dL_law_441 rfl ?_
  refine as_iconst (pc := 442) X dL_law_442 (by decide) ?_
  refine as_iadd (pc := 443) X dL_law_443 ?_
  refine as_iald (pc := 444) X dL_law_444 ?_
  refine as_callV (ci := 4) (np := 2) (ix := 49) (pc := 445) X ct_X4_reason (Cn := (RX4, TX4, 7)) rfl ⟨rfl, rfl⟩ aw_502 aw_503 aw_504 aw_505 aw_59 (by decide +kernel) (by decide) dL_law_445 ?_
  refine as_aload_n (pc := 448) X dL_law_448 rfl ?_
  refine as_aload_n (pc := 449) X dL_law_449 rfl ?_
  refine as_iload_n (pc := 450) X dL_law_450 rfl ?_
  refine as_iconst (pc := 451) X dL_law_451 (by decide) ?_
  refine as_iadd (pc := 452) X dL_law_452 ?_
  refine as_iald (pc := 453) X dL_law_453 ?_
  refine as_aload_n (pc := 454) X dL_law_454 rfl ?_
  refine as_iload_n (pc := 455) X dL_law_455 rfl ?_
  refine as_iconst (pc := 456) X dL_law_456 (by decide) ?_
  refine as_iadd (pc := 457) X dL_law_457 ?_
  refine as_iald (pc := 458) X dL_law_458 ?_
  refine as_callV (ci := 5) (np := 2) (ix := 52) (pc := 459) X ct_X5_reason (Cn := (RX5, TX5, 21)) rfl ⟨rfl, rfl⟩ aw_928 aw_929 aw_930 aw_931 aw_65 (by decide +kernel) (by decide) dL_law_459 ?_
  refine as_ic_eq (pc := 462) X 964 dL_law_462 (by decide) (s_L_law_964 X) ?_
  refine as_iconst (pc := 465) X dL_law_465 (by decide) ?_
  exact as_zretL (pc := 466) X rfl rfl dL_law_466
theorem s_L_law_401 {G : am_G} {bc bs : Nat} {nm : String} (X : am_Cx G cL_law RL nm room_1 (some .boolean) 4 bc bs false) : am_S G 401 (t_L_law_401 bc bs) := by
  unfold t_L_law_401
  refine as_aload_n (pc := 401) X dL_law_401 rfl ?_
  refine as_aload_n (pc := 402) X dL_law_402 rfl ?_
  refine as_iload_n (pc := 403) X dL_law_403 rfl ?_
  refine as_iconst (pc := 404) X dL_law_404 (by decide) ?_
  refine as_iadd (pc := 405) X dL_law_405 ?_
  refine as_iald (pc := 406) X dL_law_406 ?_
  refine as_aload_n (pc := 407) X dL_law_407 rfl ?_
  refine as_iload_n (pc := 408) X dL_law_408 rfl ?_
  refine as_iconst (pc := 409) X dL_law_409 (by decide) ?_
  refine as_iadd (pc := 410) X dL_law_410 ?_
  refine as_iald (pc := 411) X dL_law_411 ?_
  refine as_callV (ci := 4) (np := 2) (ix := 45) (pc := 412) X ct_X4_score (Cn := (RX4, TX4, 7)) rfl ⟨rfl, rfl⟩ aw_493 aw_494 aw_495 aw_496 aw_59 (by decide +kernel) (by decide) dL_law_412 ?_
  refine as_aload_n (pc := 415) X dL_law_415 rfl ?_
  refine as_aload_n (pc := 416) X dL_law_416 rfl ?_
  refine as_iload_n (pc := 417) X dL_law_417 rfl ?_
  refine as_iconst (pc := 418) X dL_law_418 (by decide) ?_
  refine as_iadd (pc := 419) X dL_law_419 ?_
  refine as_iald (pc := 420) X dL_law_420 ?_
  refine as_aload_n (pc := 421) X dL_law_421 rfl ?_
  refine as_iload_n (pc := 422) X dL_law_422 rfl ?_
  refine as_iconst (pc := 423) X dL_law_423 (by decide) ?_
  refine as_iadd (pc := 424) X dL_law_424 ?_
  refine as_iald (pc := 425) X dL_law_425 ?_
  refine as_callV (ci := 5) (np := 2) (ix := 48) (pc := 426) X ct_X5_score (Cn := (RX5, TX5, 21)) rfl ⟨rfl, rfl⟩ aw_924 aw_925 aw_926 aw_927 aw_65 (by decide +kernel) (by decide) dL_law_426 ?_
  refine as_ic_eq (pc := 429) X 964 dL_law_429 (by decide) (s_L_law_964 X) ?_
  refine as_iconst (pc := 432) X dL_law_432 (by decide) ?_
  exact as_zretL (pc := 433) X rfl rfl dL_law_433
theorem s_L_law_378 {G : am_G} {bc bs : Nat} {nm : String} (X : am_Cx G cL_law RL nm room_1 (some .boolean) 4 bc bs false) : am_S G 378 (t_L_law_378 bc bs) := by
  unfold t_L_law_378
  refine as_aload_n (pc := 378) X dL_law_378 rfl ?_
  refine as_aload_n (pc := 379) X dL_law_379 rfl ?_
  refine as_iload_n (pc := 380) X dL_law_380 rfl ?_
  refine as_iconst (pc := 381) X dL_law_381 (by decide) ?_
  refine as_iadd (pc := 382) X dL_law_382 ?_
  refine as_iald (pc := 383) X dL_law_383 ?_
  refine as_callV (ci := 4) (np := 1) (ix := 41) (pc := 384) X ct_X4_inOrder (Cn := (RX4, TX4, 7)) rfl ⟨rfl, rfl⟩ aw_489 aw_490 aw_491 aw_492 aw_59 (by decide +kernel) (by decide) dL_law_384 ?_
  refine as_aload_n (pc := 387) X dL_law_387 rfl ?_
  refine as_aload_n (pc := 388) X dL_law_388 rfl ?_
  refine as_iload_n (pc := 389) X dL_law_389 rfl ?_
  refine as_iconst (pc := 390) X dL_law_390 (by decide) ?_
  refine as_iadd (pc := 391) X dL_law_391 ?_
  refine as_iald (pc := 392) X dL_law_392 ?_
  refine as_callV (ci := 5) (np := 1) (ix := 44) (pc := 393) X ct_X5_inOrder (Cn := (RX5, TX5, 21)) rfl ⟨rfl, rfl⟩ aw_920 aw_921 aw_922 aw_923 aw_65 (by decide +kernel) (by decide) dL_law_393 ?_
  refine as_ic_eq (pc := 396) X 964 dL_law_396 (by decide) (s_L_law_964 X) ?_
  refine as_iconst (pc := 399) X dL_law_399 (by decide) ?_
  exact as_zretL (pc := 400) X rfl rfl dL_law_400
theorem s_L_law_345 {G : am_G} {bc bs : Nat} {nm : String} (X : am_Cx G cL_law RL nm room_1 (some .boolean) 4 bc bs false) : am_S G 345 (t_L_law_345 bc bs) := by
  unfold t_L_law_345
  refine as_aload_n (pc := 345) X dL_law_345 rfl ?_
  refine as_aload_n (pc := 346) X dL_law_346 rfl ?_
  refine as_iload_n (pc := 347) X dL_law_347 rfl ?_
  refine as_iconst (pc := 348) X dL_law_348 (by decide) ?_
  refine as_iadd (pc := 349) X dL_law_349 ?_
  refine as_iald (pc := 350) X dL_law_350 ?_
  refine as_aload_n (pc := 351) X dL_law_351 rfl ?_
  refine as_iload_n (pc := 352) X dL_law_352 rfl ?_
  refine as_iconst (pc := 353) X dL_law_353 (by decide) ?_
  refine as_iadd (pc := 354) X dL_law_354 ?_
  refine as_iald (pc := 355) X dL_law_355 ?_
  refine as_callV (ci := 4) (np := 2) (ix := 37) (pc := 356) X ct_X4_lineOf (Cn := (RX4, TX4, 7)) rfl ⟨rfl, rfl⟩ aw_385 aw_386 aw_387 aw_388 aw_59 (by decide +kernel) (by decide) dL_law_356 ?_
  refine as_aload_n (pc := 359) X dL_law_359 rfl ?_
  refine as_aload_n (pc := 360) X dL_law_360 rfl ?_
  refine as_iload_n (pc := 361) X dL_law_361 rfl ?_
  refine as_iconst (pc := 362) X dL_law_362 (by decide) ?_
  refine as_iadd (pc := 363) X dL_law_363 ?_
  refine as_iald (pc := 364) X dL_law_364 ?_
  refine as_aload_n (pc := 365) X dL_law_365 rfl ?_
  refine as_iload_n (pc := 366) X dL_law_366 rfl ?_
  refine as_iconst (pc := 367) X dL_law_367 (by decide) ?_
  refine as_iadd (pc := 368) X dL_law_368 ?_
  refine as_iald (pc := 369) X dL_law_369 ?_
  refine as_callV (ci := 5) (np := 2) (ix := 40) (pc := 370) X ct_X5_lineOf (Cn := (RX5, TX5, 21)) rfl ⟨rfl, rfl⟩ aw_857 aw_858 aw_859 aw_860 aw_65 (by decide +kernel) (by decide) dL_law_370 ?_
  refine as_ic_eq (pc := 373) X 964 dL_law_373 (by decide) (s_L_law_964 X) ?_
  refine as_iconst (pc := 376) X dL_law_376 (by decide) ?_
  exact as_zretL (pc := 377) X rfl rfl dL_law_377
theorem s_L_law_322 {G : am_G} {bc bs : Nat} {nm : String} (X : am_Cx G cL_law RL nm room_1 (some .boolean) 4 bc bs false) : am_S G 322 (t_L_law_322 bc bs) := by
  unfold t_L_law_322
  refine as_aload_n (pc := 322) X dL_law_322 rfl ?_
  refine as_aload_n (pc := 323) X dL_law_323 rfl ?_
  refine as_iload_n (pc := 324) X dL_law_324 rfl ?_
  refine as_iconst (pc := 325) X dL_law_325 (by decide) ?_
  refine as_iadd (pc := 326) X dL_law_326 ?_
  refine as_iald (pc := 327) X dL_law_327 ?_
  refine as_callV (ci := 4) (np := 1) (ix := 32) (pc := 328) X ct_X4_drop (Cn := (RX4, TX4, 7)) rfl ⟨rfl, rfl⟩ aw_366 aw_367 aw_368 aw_369 aw_59 (by decide +kernel) (by decide) dL_law_328 ?_
  refine as_aload_n (pc := 331) X dL_law_331 rfl ?_
  refine as_aload_n (pc := 332) X dL_law_332 rfl ?_
  refine as_iload_n (pc := 333) X dL_law_333 rfl ?_
  refine as_iconst (pc := 334) X dL_law_334 (by decide) ?_
  refine as_iadd (pc := 335) X dL_law_335 ?_
  refine as_iald (pc := 336) X dL_law_336 ?_
  refine as_callV (ci := 5) (np := 1) (ix := 36) (pc := 337) X ct_X5_drop (Cn := (RX5, TX5, 21)) rfl ⟨rfl, rfl⟩ aw_840 aw_841 aw_842 aw_843 aw_65 (by decide +kernel) (by decide) dL_law_337 ?_
  refine as_ic_eq (pc := 340) X 964 dL_law_340 (by decide) (s_L_law_964 X) ?_
  refine as_iconst (pc := 343) X dL_law_343 (by decide) ?_
  exact as_zretL (pc := 344) X rfl rfl dL_law_344
theorem s_L_law_269 {G : am_G} {bc bs : Nat} {nm : String} (X : am_Cx G cL_law RL nm room_1 (some .boolean) 4 bc bs false) : am_S G 269 (t_L_law_269 bc bs) := by
  unfold t_L_law_269
  refine as_aload_n (pc := 269) X dL_law_269 rfl ?_
  refine as_aload_n (pc := 270) X dL_law_270 rfl ?_
  refine as_iload_n (pc := 271) X dL_law_271 rfl ?_
  refine as_iconst (pc := 272) X dL_law_272 (by decide) ?_
  refine as_iadd (pc := 273) X dL_law_273 ?_
  refine as_iald (pc := 274) X dL_law_274 ?_
  refine as_aload_n (pc := 275) X dL_law_275 rfl ?_
  refine as_iload_n (pc := 276) X dL_law_276 rfl ?_
  refine as_iconst (pc := 277) X dL_law_277 (by decide) ?_
  refine as_iadd (pc := 278) X dL_law_278 ?_
  refine as_iald (pc := 279) X dL_law_279 ?_
  refine as_aload_n (pc := 280) X dL_law_280 rfl ?_
  refine as_iload_n (pc := 281) X dL_law_281 rfl ?_
  refine as_iconst (pc := 282) X dL_law_282 (by decide) ?_
  refine as_iadd (pc := 283) X dL_law_283 ?_
  refine as_iald (pc := 284) X dL_law_284 ?_
  refine as_aload_n (pc := 285) X dL_law_285 rfl ?_
  refine as_iload_n (pc := 286) X dL_law_286 rfl ?_
  refine as_iconst (pc := 287) X dL_law_287 (by decide) ?_
  refine as_iadd (pc := 288) X dL_law_288 ?_
  refine as_iald (pc := 289) X dL_law_289 ?_
  refine as_callV (ci := 4) (np := 4) (ix := 27) (pc := 290) X ct_X4_line (Cn := (RX4, TX4, 7)) rfl ⟨rfl, rfl⟩ aw_354 aw_355 aw_356 aw_357 aw_59 (by decide +kernel) (by decide) dL_law_290 ?_
  refine as_aload_n (pc := 293) X dL_law_293 rfl ?_
  refine as_aload_n (pc := 294) X dL_law_294 rfl ?_
  refine as_iload_n (pc := 295) X dL_law_295 rfl ?_
  refine as_iconst (pc := 296) X dL_law_296 (by decide) ?_
  refine as_iadd (pc := 297) X dL_law_297 ?_
  refine as_iald (pc := 298) X dL_law_298 ?_
  refine as_aload_n (pc := 299) X dL_law_299 rfl ?_
  refine as_iload_n (pc := 300) X dL_law_300 rfl ?_
  refine as_iconst (pc := 301) X dL_law_301 (by decide) ?_
  refine as_iadd (pc := 302) X dL_law_302 ?_
  refine as_iald (pc := 303) X dL_law_303 ?_
  refine as_aload_n (pc := 304) X dL_law_304 rfl ?_
  refine as_iload_n (pc := 305) X dL_law_305 rfl ?_
  refine as_iconst (pc := 306) X dL_law_306 (by decide) ?_
  refine as_iadd (pc := 307) X dL_law_307 ?_
  refine as_iald (pc := 308) X dL_law_308 ?_
  refine as_aload_n (pc := 309) X dL_law_309 rfl ?_
  refine as_iload_n (pc := 310) X dL_law_310 rfl ?_
  refine as_iconst (pc := 311) X dL_law_311 (by decide) ?_
  refine as_iadd (pc := 312) X dL_law_312 ?_
  refine as_iald (pc := 313) X dL_law_313 ?_
  refine as_callV (ci := 5) (np := 4) (ix := 31) (pc := 314) X ct_X5_line (Cn := (RX5, TX5, 21)) rfl ⟨rfl, rfl⟩ aw_828 aw_829 aw_830 aw_831 aw_65 (by decide +kernel) (by decide) dL_law_314 ?_
  refine as_ic_eq (pc := 317) X 964 dL_law_317 (by decide) (s_L_law_964 X) ?_
  refine as_iconst (pc := 320) X dL_law_320 (by decide) ?_
  exact as_zretL (pc := 321) X rfl rfl dL_law_321
theorem s_L_law_236 {G : am_G} {bc bs : Nat} {nm : String} (X : am_Cx G cL_law RL nm room_1 (some .boolean) 4 bc bs false) : am_S G 236 (t_L_law_236 bc bs) := by
  unfold t_L_law_236
  refine as_aload_n (pc := 236) X dL_law_236 rfl ?_
  refine as_aload_n (pc := 237) X dL_law_237 rfl ?_
  refine as_iload_n (pc := 238) X dL_law_238 rfl ?_
  refine as_iconst (pc := 239) X dL_law_239 (by decide) ?_
  refine as_iadd (pc := 240) X dL_law_240 ?_
  refine as_iald (pc := 241) X dL_law_241 ?_
  refine as_aload_n (pc := 242) X dL_law_242 rfl ?_
  refine as_iload_n (pc := 243) X dL_law_243 rfl ?_
  refine as_iconst (pc := 244) X dL_law_244 (by decide) ?_
  refine as_iadd (pc := 245) X dL_law_245 ?_
  refine as_iald (pc := 246) X dL_law_246 ?_
  refine as_callV (ci := 4) (np := 2) (ix := 23) (pc := 247) X ct_X4_whoHas (Cn := (RX4, TX4, 7)) rfl ⟨rfl, rfl⟩ aw_350 aw_351 aw_352 aw_353 aw_59 (by decide +kernel) (by decide) dL_law_247 ?_
  refine as_aload_n (pc := 250) X dL_law_250 rfl ?_
  refine as_aload_n (pc := 251) X dL_law_251 rfl ?_
  refine as_iload_n (pc := 252) X dL_law_252 rfl ?_
  refine as_iconst (pc := 253) X dL_law_253 (by decide) ?_
  refine as_iadd (pc := 254) X dL_law_254 ?_
  refine as_iald (pc := 255) X dL_law_255 ?_
  refine as_aload_n (pc := 256) X dL_law_256 rfl ?_
  refine as_iload_n (pc := 257) X dL_law_257 rfl ?_
  refine as_iconst (pc := 258) X dL_law_258 (by decide) ?_
  refine as_iadd (pc := 259) X dL_law_259 ?_
  refine as_iald (pc := 260) X dL_law_260 ?_
  refine as_callV (ci := 5) (np := 2) (ix := 26) (pc := 261) X ct_X5_whoHas (Cn := (RX5, TX5, 21)) rfl ⟨rfl, rfl⟩ aw_824 aw_825 aw_826 aw_827 aw_65 (by decide +kernel) (by decide) dL_law_261 ?_
  refine as_ic_eq (pc := 264) X 964 dL_law_264 (by decide) (s_L_law_964 X) ?_
  refine as_iconst (pc := 267) X dL_law_267 (by decide) ?_
  exact as_zretL (pc := 268) X rfl rfl dL_law_268
theorem s_L_law_203 {G : am_G} {bc bs : Nat} {nm : String} (X : am_Cx G cL_law RL nm room_1 (some .boolean) 4 bc bs false) : am_S G 203 (t_L_law_203 bc bs) := by
  unfold t_L_law_203
  refine as_aload_n (pc := 203) X dL_law_203 rfl ?_
  refine as_aload_n (pc := 204) X dL_law_204 rfl ?_
  refine as_iload_n (pc := 205) X dL_law_205 rfl ?_
  refine as_iconst (pc := 206) X dL_law_206 (by decide) ?_
  refine as_iadd (pc := 207) X dL_law_207 ?_
  refine as_iald (pc := 208) X dL_law_208 ?_
  refine as_aload_n (pc := 209) X dL_law_209 rfl ?_
  refine as_iload_n (pc := 210) X dL_law_210 rfl ?_
  refine as_iconst (pc := 211) X dL_law_211 (by decide) ?_
  refine as_iadd (pc := 212) X dL_law_212 ?_
  refine as_iald (pc := 213) X dL_law_213 ?_
  refine as_callV (ci := 4) (np := 2) (ix := 18) (pc := 214) X ct_X4_nameOf (Cn := (RX4, TX4, 7)) rfl ⟨rfl, rfl⟩ aw_342 aw_343 aw_344 aw_345 aw_59 (by decide +kernel) (by decide) dL_law_214 ?_
  refine as_aload_n (pc := 217) X dL_law_217 rfl ?_
  refine as_aload_n (pc := 218) X dL_law_218 rfl ?_
  refine as_iload_n (pc := 219) X dL_law_219 rfl ?_
  refine as_iconst (pc := 220) X dL_law_220 (by decide) ?_
  refine as_iadd (pc := 221) X dL_law_221 ?_
  refine as_iald (pc := 222) X dL_law_222 ?_
  refine as_aload_n (pc := 223) X dL_law_223 rfl ?_
  refine as_iload_n (pc := 224) X dL_law_224 rfl ?_
  refine as_iconst (pc := 225) X dL_law_225 (by decide) ?_
  refine as_iadd (pc := 226) X dL_law_226 ?_
  refine as_iald (pc := 227) X dL_law_227 ?_
  refine as_callV (ci := 5) (np := 2) (ix := 22) (pc := 228) X ct_X5_nameOf (Cn := (RX5, TX5, 21)) rfl ⟨rfl, rfl⟩ aw_820 aw_821 aw_822 aw_823 aw_65 (by decide +kernel) (by decide) dL_law_228 ?_
  refine as_ic_eq (pc := 231) X 964 dL_law_231 (by decide) (s_L_law_964 X) ?_
  refine as_iconst (pc := 234) X dL_law_234 (by decide) ?_
  exact as_zretL (pc := 235) X rfl rfl dL_law_235
theorem s_L_law_160 {G : am_G} {bc bs : Nat} {nm : String} (X : am_Cx G cL_law RL nm room_1 (some .boolean) 4 bc bs false) : am_S G 160 (t_L_law_160 bc bs) := by
  unfold t_L_law_160
  refine as_aload_n (pc := 160) X dL_law_160 rfl ?_
  refine as_aload_n (pc := 161) X dL_law_161 rfl ?_
  refine as_iload_n (pc := 162) X dL_law_162 rfl ?_
  refine as_iconst (pc := 163) X dL_law_163 (by decide) ?_
  refine as_iadd (pc := 164) X dL_law_164 ?_
  refine as_iald (pc := 165) X dL_law_165 ?_
  refine as_aload_n (pc := 166) X dL_law_166 rfl ?_
  refine as_iload_n (pc := 167) X dL_law_167 rfl ?_
  refine as_iconst (pc := 168) X dL_law_168 (by decide) ?_
  refine as_iadd (pc := 169) X dL_law_169 ?_
  refine as_iald (pc := 170) X dL_law_170 ?_
  refine as_aload_n (pc := 171) X dL_law_171 rfl ?_
  refine as_iload_n (pc := 172) X dL_law_172 rfl ?_
  refine as_iconst (pc := 173) X dL_law_173 (by decide) ?_
  refine as_iadd (pc := 174) X dL_law_174 ?_
  refine as_iald (pc := 175) X dL_law_175 ?_
  refine as_callV (ci := 4) (np := 3) (ix := 13) (pc := 176) X ct_X4_takes (Cn := (RX4, TX4, 7)) rfl ⟨rfl, rfl⟩ aw_296 aw_297 aw_298 aw_299 aw_59 (by decide +kernel) (by decide) dL_law_176 ?_
  refine as_aload_n (pc := 179) X dL_law_179 rfl ?_
  refine as_aload_n (pc := 180) X dL_law_180 rfl ?_
  refine as_iload_n (pc := 181) X dL_law_181 rfl ?_
  refine as_iconst (pc := 182) X dL_law_182 (by decide) ?_
  refine as_iadd (pc := 183) X dL_law_183 ?_
  refine as_iald (pc := 184) X dL_law_184 ?_
  refine as_aload_n (pc := 185) X dL_law_185 rfl ?_
  refine as_iload_n (pc := 186) X dL_law_186 rfl ?_
  refine as_iconst (pc := 187) X dL_law_187 (by decide) ?_
  refine as_iadd (pc := 188) X dL_law_188 ?_
  refine as_iald (pc := 189) X dL_law_189 ?_
  refine as_aload_n (pc := 190) X dL_law_190 rfl ?_
  refine as_iload_n (pc := 191) X dL_law_191 rfl ?_
  refine as_iconst (pc := 192) X dL_law_192 (by decide) ?_
  refine as_iadd (pc := 193) X dL_law_193 ?_
  refine as_iald (pc := 194) X dL_law_194 ?_
  refine as_callV (ci := 5) (np := 3) (ix := 17) (pc := 195) X ct_X5_takes (Cn := (RX5, TX5, 21)) rfl ⟨rfl, rfl⟩ aw_802 aw_803 aw_804 aw_805 aw_65 (by decide +kernel) (by decide) dL_law_195 ?_
  refine as_ic_eq (pc := 198) X 964 dL_law_198 (by decide) (s_L_law_964 X) ?_
  refine as_iconst (pc := 201) X dL_law_201 (by decide) ?_
  exact as_zretL (pc := 202) X rfl rfl dL_law_202
theorem s_L_law_18 {G : am_G} {bc bs : Nat} {nm : String} (X : am_Cx G cL_law RL nm room_1 (some .boolean) 4 bc bs false) : am_S G 18 (t_L_law_18 bc bs) := by
  unfold t_L_law_18
  refine as_iload_n (pc := 18) X dL_law_18 rfl ?_
  refine as_aload_n (pc := 19) X dL_law_19 rfl ?_
  refine as_alen (pc := 20) X dL_law_20 ?_
  refine as_iconst (pc := 21) X dL_law_21 (by decide) ?_
  refine as_isub (pc := 22) X dL_law_22 ?_
  refine as_ic_gt (pc := 23) X 970 dL_law_23 (by decide) (s_L_law_970 X) ?_
  refine as_aload_n (pc := 26) X dL_law_26 rfl ?_
  refine as_iload_n (pc := 27) X dL_law_27 rfl ?_
  refine as_iald (pc := 28) X dL_law_28 ?_
  refine as_bipush (pc := 29) X dL_law_29 (by decide) ?_
  refine as_iand (pc := 31) X dL_law_31 ?_
  refine as_sw (pc := 32) X dL_law_32 v_L_law_32 964 (by decide) (fun j hj => ?_) (s_L_law_964 X)
  match j, hj with
  | 0, _ => exact ⟨128, rfl, by decide, s_L_law_160 X⟩
  | 1, _ => exact ⟨171, rfl, by decide, s_L_law_203 X⟩
  | 2, _ => exact ⟨204, rfl, by decide, s_L_law_236 X⟩
  | 3, _ => exact ⟨237, rfl, by decide, s_L_law_269 X⟩
  | 4, _ => exact ⟨290, rfl, by decide, s_L_law_322 X⟩
  | 5, _ => exact ⟨313, rfl, by decide, s_L_law_345 X⟩
  | 6, _ => exact ⟨346, rfl, by decide, s_L_law_378 X⟩
  | 7, _ => exact ⟨369, rfl, by decide, s_L_law_401 X⟩
  | 8, _ => exact ⟨402, rfl, by decide, s_L_law_434 X⟩
  | 9, _ => exact ⟨435, rfl, by decide, s_L_law_467 X⟩
  | 10, _ => exact ⟨468, rfl, by decide, s_L_law_500 X⟩
  | 11, _ => exact ⟨491, rfl, by decide, s_L_law_523 X⟩
  | 12, _ => exact ⟨504, rfl, by decide, s_L_law_536 X⟩
  | 13, _ => exact ⟨547, rfl, by decide, s_L_law_579 X⟩
  | 14, _ => exact ⟨570, rfl, by decide, s_L_law_602 X⟩
  | 15, _ => exact ⟨603, rfl, by decide, s_L_law_635 X⟩
  | 16, _ => exact ⟨636, rfl, by decide, s_L_law_668 X⟩
  | 17, _ => exact ⟨669, rfl, by decide, s_L_law_701 X⟩
  | 18, _ => exact ⟨692, rfl, by decide, s_L_law_724 X⟩
  | 19, _ => exact ⟨725, rfl, by decide, s_L_law_757 X⟩
  | 20, _ => exact ⟨748, rfl, by decide, s_L_law_780 X⟩
  | 21, _ => exact ⟨771, rfl, by decide, s_L_law_803 X⟩
  | 22, _ => exact ⟨804, rfl, by decide, s_L_law_836 X⟩
  | 23, _ => exact ⟨827, rfl, by decide, s_L_law_859 X⟩
  | 24, _ => exact ⟨860, rfl, by decide, s_L_law_892 X⟩
  | 25, _ => exact ⟨883, rfl, by decide, s_L_law_915 X⟩
  | 26, _ => exact ⟨896, rfl, by decide, s_L_law_928 X⟩
  | 27, _ => exact ⟨919, rfl, by decide, s_L_law_951 X⟩
  | j + 28, hj => exact absurd hj (by omega)
theorem s_L_law_0 {G : am_G} {bc bs : Nat} {nm : String} (X : am_Cx G cL_law RL nm room_1 (some .boolean) 4 bc bs false) : am_S G 0 (t_L_law_0 bc bs) := by
  unfold t_L_law_0
  refine as_new (ci := 4) (Cn := RX4) (Tf := TX4) (N := 7) (pc := 0) X rfl rfl iw_X4 tyX4 tyX4_ok (by decide +kernel) aw_68 aw_69 aw_59 dL_law_0 ?_
  refine as_dup (pc := 3) X dL_law_3 ?_
  refine as_callI (np := 0) (ix := 9) (pc := 4) X ct_X4_init rfl aw_70 aw_71 aw_72 aw_59 (by decide +kernel) (by decide) dL_law_4 ?_
  refine as_astore_n (pc := 7) X dL_law_7 rfl ?_ (by decide)
  refine as_new (ci := 5) (Cn := RX5) (Tf := TX5) (N := 21) (pc := 8) X rfl rfl iw_X5 tyX5 tyX5_ok (by decide +kernel) aw_732 aw_733 aw_65 dL_law_8 ?_
  refine as_dup (pc := 11) X dL_law_11 ?_
  refine as_callI (np := 0) (ix := 12) (pc := 12) X ct_X5_init rfl aw_734 aw_735 aw_736 aw_65 (by decide +kernel) (by decide) dL_law_12 ?_
  refine as_astore_n (pc := 15) X dL_law_15 rfl ?_ (by decide)
  refine as_iconst (pc := 16) X dL_law_16 (by decide) ?_
  refine as_istore_n (pc := 17) X dL_law_17 rfl ?_ (by decide)
  exact as_head
theorem s_L_law {G : am_G} {bc bs : Nat} {nm : String} (X : am_Cx G cL_law RL nm room_1 (some .boolean) 4 bc bs false) (h : Nat) : am_S G h (h_L_law bc bs h) := by
  unfold h_L_law
  split
  · next e => rw [e]; exact s_L_law_0 X
  split
  · next e => rw [e]; exact s_L_law_18 X
  exact as_bad
