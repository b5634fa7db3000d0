/-! each decoded row by its place -/
theorem r_188_0 : sm_ic 188 0 = some (.new 7, 0, 0, 53) := by decide +kernel
theorem r_188_3 : sm_ic 188 3 = some (.dup, 0, 0, 0) := by decide +kernel
theorem r_188_4 : sm_ic 188 4 = some (.invokespecial 9, 0, 1, 55) := by decide +kernel
theorem r_188_7 : sm_ic 188 7 = some (.astore_n 1, 0, 0, 0) := by decide +kernel
theorem r_188_8 : sm_ic 188 8 = some (.new 10, 7, 0, 725) := by decide +kernel
theorem r_188_11 : sm_ic 188 11 = some (.dup, 0, 0, 0) := by decide +kernel
theorem r_188_12 : sm_ic 188 12 = some (.invokespecial 12, 128, 1, 727) := by decide +kernel
theorem r_188_15 : sm_ic 188 15 = some (.astore_n 2, 0, 0, 0) := by decide +kernel
theorem r_188_16 : sm_ic 188 16 = some (.iconst 0, 0, 0, 0) := by decide +kernel
theorem r_188_17 : sm_ic 188 17 = some (.istore_n 3, 0, 0, 0) := by decide +kernel
theorem r_188_18 : sm_ic 188 18 = some (.iload_n 3, 0, 0, 0) := by decide +kernel
theorem r_188_19 : sm_ic 188 19 = some (.aload_n 0, 0, 0, 0) := by decide +kernel
theorem r_188_20 : sm_ic 188 20 = some (.arraylength, 0, 0, 0) := by decide +kernel
theorem r_188_21 : sm_ic 188 21 = some (.iconst 4, 0, 0, 0) := by decide +kernel
theorem r_188_22 : sm_ic 188 22 = some (.isub, 0, 0, 0) := by decide +kernel
theorem r_188_23 : sm_ic 188 23 = some (.if_icmp .gt 898, 921, 0, 0) := by decide +kernel
theorem r_188_26 : sm_ic 188 26 = some (.aload_n 0, 0, 0, 0) := by decide +kernel
theorem r_188_27 : sm_ic 188 27 = some (.iload_n 3, 0, 0, 0) := by decide +kernel
theorem r_188_28 : sm_ic 188 28 = some (.iaload, 0, 0, 0) := by decide +kernel
theorem r_188_29 : sm_ic 188 29 = some (.bipush 31, 0, 0, 0) := by decide +kernel
theorem r_188_31 : sm_ic 188 31 = some (.iand, 0, 0, 0) := by decide +kernel
theorem r_188_32 : sm_ic 188 32 = some (.tableswitch 883 0 30 #[140, 163, 176, 189, 202, 235, 268, 291, 314, 347, 370, 403, 436, 469, 492, 515, 528, 551, 574, 587, 610, 643, 666, 699, 712, 735, 768, 791, 834, 847, 860], 0, 0, 0) := by decide +kernel
theorem r_188_172 : sm_ic 188 172 = some (.aload_n 1, 0, 0, 0) := by decide +kernel
theorem r_188_173 : sm_ic 188 173 = some (.aload_n 0, 0, 0, 0) := by decide +kernel
theorem r_188_174 : sm_ic 188 174 = some (.iload_n 3, 0, 0, 0) := by decide +kernel
theorem r_188_175 : sm_ic 188 175 = some (.iconst 1, 0, 0, 0) := by decide +kernel
theorem r_188_176 : sm_ic 188 176 = some (.iadd, 0, 0, 0) := by decide +kernel
theorem r_188_177 : sm_ic 188 177 = some (.iaload, 0, 0, 0) := by decide +kernel
theorem r_188_178 : sm_ic 188 178 = some (.invokevirtual 13, 44, 2, 377) := by decide +kernel
theorem r_188_181 : sm_ic 188 181 = some (.aload_n 2, 0, 0, 0) := by decide +kernel
theorem r_188_182 : sm_ic 188 182 = some (.aload_n 0, 0, 0, 0) := by decide +kernel
theorem r_188_183 : sm_ic 188 183 = some (.iload_n 3, 0, 0, 0) := by decide +kernel
theorem r_188_184 : sm_ic 188 184 = some (.iconst 1, 0, 0, 0) := by decide +kernel
theorem r_188_185 : sm_ic 188 185 = some (.iadd, 0, 0, 0) := by decide +kernel
theorem r_188_186 : sm_ic 188 186 = some (.iaload, 0, 0, 0) := by decide +kernel
theorem r_188_187 : sm_ic 188 187 = some (.invokevirtual 17, 132, 2, 813) := by decide +kernel
theorem r_188_190 : sm_ic 188 190 = some (.if_icmp .eq 725, 915, 0, 0) := by decide +kernel
theorem r_188_193 : sm_ic 188 193 = some (.iconst 0, 0, 0, 0) := by decide +kernel
theorem r_188_194 : sm_ic 188 194 = some (.ireturn, 0, 0, 0) := by decide +kernel
theorem r_188_195 : sm_ic 188 195 = some (.aload_n 1, 0, 0, 0) := by decide +kernel
theorem r_188_196 : sm_ic 188 196 = some (.invokevirtual 18, 45, 1, 382) := by decide +kernel
theorem r_188_199 : sm_ic 188 199 = some (.aload_n 2, 0, 0, 0) := by decide +kernel
theorem r_188_200 : sm_ic 188 200 = some (.invokevirtual 22, 134, 1, 822) := by decide +kernel
theorem r_188_203 : sm_ic 188 203 = some (.if_icmp .eq 712, 915, 0, 0) := by decide +kernel
theorem r_188_206 : sm_ic 188 206 = some (.iconst 0, 0, 0, 0) := by decide +kernel
theorem r_188_207 : sm_ic 188 207 = some (.ireturn, 0, 0, 0) := by decide +kernel
theorem r_188_208 : sm_ic 188 208 = some (.aload_n 1, 0, 0, 0) := by decide +kernel
theorem r_188_209 : sm_ic 188 209 = some (.invokevirtual 23, 46, 1, 386) := by decide +kernel
theorem r_188_212 : sm_ic 188 212 = some (.aload_n 2, 0, 0, 0) := by decide +kernel
theorem r_188_213 : sm_ic 188 213 = some (.invokevirtual 26, 135, 1, 826) := by decide +kernel
theorem r_188_216 : sm_ic 188 216 = some (.if_icmp .eq 699, 915, 0, 0) := by decide +kernel
theorem r_188_219 : sm_ic 188 219 = some (.iconst 0, 0, 0, 0) := by decide +kernel
theorem r_188_220 : sm_ic 188 220 = some (.ireturn, 0, 0, 0) := by decide +kernel
theorem r_188_221 : sm_ic 188 221 = some (.aload_n 1, 0, 0, 0) := by decide +kernel
theorem r_188_222 : sm_ic 188 222 = some (.invokevirtual 27, 47, 1, 390) := by decide +kernel
theorem r_188_225 : sm_ic 188 225 = some (.aload_n 2, 0, 0, 0) := by decide +kernel
theorem r_188_226 : sm_ic 188 226 = some (.invokevirtual 30, 142, 1, 858) := by decide +kernel
theorem r_188_229 : sm_ic 188 229 = some (.if_icmp .eq 686, 915, 0, 0) := by decide +kernel
theorem r_188_232 : sm_ic 188 232 = some (.iconst 0, 0, 0, 0) := by decide +kernel
theorem r_188_233 : sm_ic 188 233 = some (.ireturn, 0, 0, 0) := by decide +kernel
theorem r_188_234 : sm_ic 188 234 = some (.aload_n 1, 0, 0, 0) := by decide +kernel
theorem r_188_235 : sm_ic 188 235 = some (.aload_n 0, 0, 0, 0) := by decide +kernel
theorem r_188_236 : sm_ic 188 236 = some (.iload_n 3, 0, 0, 0) := by decide +kernel
theorem r_188_237 : sm_ic 188 237 = some (.iconst 1, 0, 0, 0) := by decide +kernel
theorem r_188_238 : sm_ic 188 238 = some (.iadd, 0, 0, 0) := by decide +kernel
theorem r_188_239 : sm_ic 188 239 = some (.iaload, 0, 0, 0) := by decide +kernel
theorem r_188_240 : sm_ic 188 240 = some (.aload_n 0, 0, 0, 0) := by decide +kernel
theorem r_188_241 : sm_ic 188 241 = some (.iload_n 3, 0, 0, 0) := by decide +kernel
theorem r_188_242 : sm_ic 188 242 = some (.iconst 2, 0, 0, 0) := by decide +kernel
theorem r_188_243 : sm_ic 188 243 = some (.iadd, 0, 0, 0) := by decide +kernel
theorem r_188_244 : sm_ic 188 244 = some (.iaload, 0, 0, 0) := by decide +kernel
theorem r_188_245 : sm_ic 188 245 = some (.invokevirtual 31, 54, 3, 416) := by decide +kernel
theorem r_188_248 : sm_ic 188 248 = some (.aload_n 2, 0, 0, 0) := by decide +kernel
theorem r_188_249 : sm_ic 188 249 = some (.aload_n 0, 0, 0, 0) := by decide +kernel
theorem r_188_250 : sm_ic 188 250 = some (.iload_n 3, 0, 0, 0) := by decide +kernel
theorem r_188_251 : sm_ic 188 251 = some (.iconst 1, 0, 0, 0) := by decide +kernel
theorem r_188_252 : sm_ic 188 252 = some (.iadd, 0, 0, 0) := by decide +kernel
theorem r_188_253 : sm_ic 188 253 = some (.iaload, 0, 0, 0) := by decide +kernel
theorem r_188_254 : sm_ic 188 254 = some (.aload_n 0, 0, 0, 0) := by decide +kernel
theorem r_188_255 : sm_ic 188 255 = some (.iload_n 3, 0, 0, 0) := by decide +kernel
theorem r_188_256 : sm_ic 188 256 = some (.iconst 2, 0, 0, 0) := by decide +kernel
theorem r_188_257 : sm_ic 188 257 = some (.iadd, 0, 0, 0) := by decide +kernel
theorem r_188_258 : sm_ic 188 258 = some (.iaload, 0, 0, 0) := by decide +kernel
theorem r_188_259 : sm_ic 188 259 = some (.invokevirtual 35, 143, 3, 862) := by decide +kernel
theorem r_188_262 : sm_ic 188 262 = some (.if_icmp .eq 653, 915, 0, 0) := by decide +kernel
theorem r_188_265 : sm_ic 188 265 = some (.iconst 0, 0, 0, 0) := by decide +kernel
theorem r_188_266 : sm_ic 188 266 = some (.ireturn, 0, 0, 0) := by decide +kernel
theorem r_188_267 : sm_ic 188 267 = some (.aload_n 1, 0, 0, 0) := by decide +kernel
theorem r_188_268 : sm_ic 188 268 = some (.aload_n 0, 0, 0, 0) := by decide +kernel
theorem r_188_269 : sm_ic 188 269 = some (.iload_n 3, 0, 0, 0) := by decide +kernel
theorem r_188_270 : sm_ic 188 270 = some (.iconst 1, 0, 0, 0) := by decide +kernel
theorem r_188_271 : sm_ic 188 271 = some (.iadd, 0, 0, 0) := by decide +kernel
theorem r_188_272 : sm_ic 188 272 = some (.iaload, 0, 0, 0) := by decide +kernel
theorem r_188_273 : sm_ic 188 273 = some (.aload_n 0, 0, 0, 0) := by decide +kernel
theorem r_188_274 : sm_ic 188 274 = some (.iload_n 3, 0, 0, 0) := by decide +kernel
theorem r_188_275 : sm_ic 188 275 = some (.iconst 2, 0, 0, 0) := by decide +kernel
theorem r_188_276 : sm_ic 188 276 = some (.iadd, 0, 0, 0) := by decide +kernel
theorem r_188_277 : sm_ic 188 277 = some (.iaload, 0, 0, 0) := by decide +kernel
theorem r_188_278 : sm_ic 188 278 = some (.invokevirtual 36, 57, 3, 430) := by decide +kernel
theorem r_188_281 : sm_ic 188 281 = some (.aload_n 2, 0, 0, 0) := by decide +kernel
theorem r_188_282 : sm_ic 188 282 = some (.aload_n 0, 0, 0, 0) := by decide +kernel
theorem r_188_283 : sm_ic 188 283 = some (.iload_n 3, 0, 0, 0) := by decide +kernel
theorem r_188_284 : sm_ic 188 284 = some (.iconst 1, 0, 0, 0) := by decide +kernel
theorem r_188_285 : sm_ic 188 285 = some (.iadd, 0, 0, 0) := by decide +kernel
theorem r_188_286 : sm_ic 188 286 = some (.iaload, 0, 0, 0) := by decide +kernel
theorem r_188_287 : sm_ic 188 287 = some (.aload_n 0, 0, 0, 0) := by decide +kernel
theorem r_188_288 : sm_ic 188 288 = some (.iload_n 3, 0, 0, 0) := by decide +kernel
theorem r_188_289 : sm_ic 188 289 = some (.iconst 2, 0, 0, 0) := by decide +kernel
theorem r_188_290 : sm_ic 188 290 = some (.iadd, 0, 0, 0) := by decide +kernel
theorem r_188_291 : sm_ic 188 291 = some (.iaload, 0, 0, 0) := by decide +kernel
theorem r_188_292 : sm_ic 188 292 = some (.invokevirtual 39, 145, 3, 871) := by decide +kernel
theorem r_188_295 : sm_ic 188 295 = some (.if_icmp .eq 620, 915, 0, 0) := by decide +kernel
theorem r_188_298 : sm_ic 188 298 = some (.iconst 0, 0, 0, 0) := by decide +kernel
theorem r_188_299 : sm_ic 188 299 = some (.ireturn, 0, 0, 0) := by decide +kernel
theorem r_188_300 : sm_ic 188 300 = some (.aload_n 1, 0, 0, 0) := by decide +kernel
theorem r_188_301 : sm_ic 188 301 = some (.aload_n 0, 0, 0, 0) := by decide +kernel
theorem r_188_302 : sm_ic 188 302 = some (.iload_n 3, 0, 0, 0) := by decide +kernel
theorem r_188_303 : sm_ic 188 303 = some (.iconst 1, 0, 0, 0) := by decide +kernel
theorem r_188_304 : sm_ic 188 304 = some (.iadd, 0, 0, 0) := by decide +kernel
theorem r_188_305 : sm_ic 188 305 = some (.iaload, 0, 0, 0) := by decide +kernel
theorem r_188_306 : sm_ic 188 306 = some (.invokevirtual 40, 61, 2, 446) := by decide +kernel
theorem r_188_309 : sm_ic 188 309 = some (.aload_n 2, 0, 0, 0) := by decide +kernel
theorem r_188_310 : sm_ic 188 310 = some (.aload_n 0, 0, 0, 0) := by decide +kernel
theorem r_188_311 : sm_ic 188 311 = some (.iload_n 3, 0, 0, 0) := by decide +kernel
theorem r_188_312 : sm_ic 188 312 = some (.iconst 1, 0, 0, 0) := by decide +kernel
theorem r_188_313 : sm_ic 188 313 = some (.iadd, 0, 0, 0) := by decide +kernel
theorem r_188_314 : sm_ic 188 314 = some (.iaload, 0, 0, 0) := by decide +kernel
theorem r_188_315 : sm_ic 188 315 = some (.invokevirtual 43, 147, 2, 879) := by decide +kernel
theorem r_188_318 : sm_ic 188 318 = some (.if_icmp .eq 597, 915, 0, 0) := by decide +kernel
theorem r_188_321 : sm_ic 188 321 = some (.iconst 0, 0, 0, 0) := by decide +kernel
theorem r_188_322 : sm_ic 188 322 = some (.ireturn, 0, 0, 0) := by decide +kernel
theorem r_188_323 : sm_ic 188 323 = some (.aload_n 1, 0, 0, 0) := by decide +kernel
theorem r_188_324 : sm_ic 188 324 = some (.aload_n 0, 0, 0, 0) := by decide +kernel
theorem r_188_325 : sm_ic 188 325 = some (.iload_n 3, 0, 0, 0) := by decide +kernel
theorem r_188_326 : sm_ic 188 326 = some (.iconst 1, 0, 0, 0) := by decide +kernel
theorem r_188_327 : sm_ic 188 327 = some (.iadd, 0, 0, 0) := by decide +kernel
theorem r_188_328 : sm_ic 188 328 = some (.iaload, 0, 0, 0) := by decide +kernel
theorem r_188_329 : sm_ic 188 329 = some (.invokevirtual 44, 72, 2, 488) := by decide +kernel
theorem r_188_332 : sm_ic 188 332 = some (.aload_n 2, 0, 0, 0) := by decide +kernel
theorem r_188_333 : sm_ic 188 333 = some (.aload_n 0, 0, 0, 0) := by decide +kernel
theorem r_188_334 : sm_ic 188 334 = some (.iload_n 3, 0, 0, 0) := by decide +kernel
theorem r_188_335 : sm_ic 188 335 = some (.iconst 1, 0, 0, 0) := by decide +kernel
theorem r_188_336 : sm_ic 188 336 = some (.iadd, 0, 0, 0) := by decide +kernel
theorem r_188_337 : sm_ic 188 337 = some (.iaload, 0, 0, 0) := by decide +kernel
theorem r_188_338 : sm_ic 188 338 = some (.invokevirtual 47, 152, 2, 897) := by decide +kernel
theorem r_188_341 : sm_ic 188 341 = some (.if_icmp .eq 574, 915, 0, 0) := by decide +kernel
theorem r_188_344 : sm_ic 188 344 = some (.iconst 0, 0, 0, 0) := by decide +kernel
theorem r_188_345 : sm_ic 188 345 = some (.ireturn, 0, 0, 0) := by decide +kernel
theorem r_188_346 : sm_ic 188 346 = some (.aload_n 1, 0, 0, 0) := by decide +kernel
theorem r_188_347 : sm_ic 188 347 = some (.aload_n 0, 0, 0, 0) := by decide +kernel
theorem r_188_348 : sm_ic 188 348 = some (.iload_n 3, 0, 0, 0) := by decide +kernel
theorem r_188_349 : sm_ic 188 349 = some (.iconst 1, 0, 0, 0) := by decide +kernel
theorem r_188_350 : sm_ic 188 350 = some (.iadd, 0, 0, 0) := by decide +kernel
theorem r_188_351 : sm_ic 188 351 = some (.iaload, 0, 0, 0) := by decide +kernel
theorem r_188_352 : sm_ic 188 352 = some (.aload_n 0, 0, 0, 0) := by decide +kernel
theorem r_188_353 : sm_ic 188 353 = some (.iload_n 3, 0, 0, 0) := by decide +kernel
theorem r_188_354 : sm_ic 188 354 = some (.iconst 2, 0, 0, 0) := by decide +kernel
theorem r_188_355 : sm_ic 188 355 = some (.iadd, 0, 0, 0) := by decide +kernel
theorem r_188_356 : sm_ic 188 356 = some (.iaload, 0, 0, 0) := by decide +kernel
theorem r_188_357 : sm_ic 188 357 = some (.invokevirtual 48, 77, 3, 511) := by decide +kernel
theorem r_188_360 : sm_ic 188 360 = some (.aload_n 2, 0, 0, 0) := by decide +kernel
theorem r_188_361 : sm_ic 188 361 = some (.aload_n 0, 0, 0, 0) := by decide +kernel
theorem r_188_362 : sm_ic 188 362 = some (.iload_n 3, 0, 0, 0) := by decide +kernel
theorem r_188_363 : sm_ic 188 363 = some (.iconst 1, 0, 0, 0) := by decide +kernel
theorem r_188_364 : sm_ic 188 364 = some (.iadd, 0, 0, 0) := by decide +kernel
theorem r_188_365 : sm_ic 188 365 = some (.iaload, 0, 0, 0) := by decide +kernel
theorem r_188_366 : sm_ic 188 366 = some (.aload_n 0, 0, 0, 0) := by decide +kernel
theorem r_188_367 : sm_ic 188 367 = some (.iload_n 3, 0, 0, 0) := by decide +kernel
theorem r_188_368 : sm_ic 188 368 = some (.iconst 2, 0, 0, 0) := by decide +kernel
theorem r_188_369 : sm_ic 188 369 = some (.iadd, 0, 0, 0) := by decide +kernel
theorem r_188_370 : sm_ic 188 370 = some (.iaload, 0, 0, 0) := by decide +kernel
theorem r_188_371 : sm_ic 188 371 = some (.invokevirtual 51, 156, 3, 912) := by decide +kernel
theorem r_188_374 : sm_ic 188 374 = some (.if_icmp .eq 541, 915, 0, 0) := by decide +kernel
theorem r_188_377 : sm_ic 188 377 = some (.iconst 0, 0, 0, 0) := by decide +kernel
theorem r_188_378 : sm_ic 188 378 = some (.ireturn, 0, 0, 0) := by decide +kernel
theorem r_188_379 : sm_ic 188 379 = some (.aload_n 1, 0, 0, 0) := by decide +kernel
theorem r_188_380 : sm_ic 188 380 = some (.aload_n 0, 0, 0, 0) := by decide +kernel
theorem r_188_381 : sm_ic 188 381 = some (.iload_n 3, 0, 0, 0) := by decide +kernel
theorem r_188_382 : sm_ic 188 382 = some (.iconst 1, 0, 0, 0) := by decide +kernel
theorem r_188_383 : sm_ic 188 383 = some (.iadd, 0, 0, 0) := by decide +kernel
theorem r_188_384 : sm_ic 188 384 = some (.iaload, 0, 0, 0) := by decide +kernel
theorem r_188_385 : sm_ic 188 385 = some (.invokevirtual 52, 80, 2, 526) := by decide +kernel
theorem r_188_388 : sm_ic 188 388 = some (.aload_n 2, 0, 0, 0) := by decide +kernel
theorem r_188_389 : sm_ic 188 389 = some (.aload_n 0, 0, 0, 0) := by decide +kernel
theorem r_188_390 : sm_ic 188 390 = some (.iload_n 3, 0, 0, 0) := by decide +kernel
theorem r_188_391 : sm_ic 188 391 = some (.iconst 1, 0, 0, 0) := by decide +kernel
theorem r_188_392 : sm_ic 188 392 = some (.iadd, 0, 0, 0) := by decide +kernel
theorem r_188_393 : sm_ic 188 393 = some (.iaload, 0, 0, 0) := by decide +kernel
theorem r_188_394 : sm_ic 188 394 = some (.invokevirtual 55, 157, 2, 916) := by decide +kernel
theorem r_188_397 : sm_ic 188 397 = some (.if_icmp .eq 518, 915, 0, 0) := by decide +kernel
theorem r_188_400 : sm_ic 188 400 = some (.iconst 0, 0, 0, 0) := by decide +kernel
theorem r_188_401 : sm_ic 188 401 = some (.ireturn, 0, 0, 0) := by decide +kernel
theorem r_188_402 : sm_ic 188 402 = some (.aload_n 1, 0, 0, 0) := by decide +kernel
theorem r_188_403 : sm_ic 188 403 = some (.aload_n 0, 0, 0, 0) := by decide +kernel
theorem r_188_404 : sm_ic 188 404 = some (.iload_n 3, 0, 0, 0) := by decide +kernel
theorem r_188_405 : sm_ic 188 405 = some (.iconst 1, 0, 0, 0) := by decide +kernel
theorem r_188_406 : sm_ic 188 406 = some (.iadd, 0, 0, 0) := by decide +kernel
theorem r_188_407 : sm_ic 188 407 = some (.iaload, 0, 0, 0) := by decide +kernel
theorem r_188_408 : sm_ic 188 408 = some (.aload_n 0, 0, 0, 0) := by decide +kernel
theorem r_188_409 : sm_ic 188 409 = some (.iload_n 3, 0, 0, 0) := by decide +kernel
theorem r_188_410 : sm_ic 188 410 = some (.iconst 2, 0, 0, 0) := by decide +kernel
theorem r_188_411 : sm_ic 188 411 = some (.iadd, 0, 0, 0) := by decide +kernel
theorem r_188_412 : sm_ic 188 412 = some (.iaload, 0, 0, 0) := by decide +kernel
theorem r_188_413 : sm_ic 188 413 = some (.invokevirtual 56, 83, 3, 538) := by decide +kernel
theorem r_188_416 : sm_ic 188 416 = some (.aload_n 2, 0, 0, 0) := by decide +kernel
theorem r_188_417 : sm_ic 188 417 = some (.aload_n 0, 0, 0, 0) := by decide +kernel
theorem r_188_418 : sm_ic 188 418 = some (.iload_n 3, 0, 0, 0) := by decide +kernel
theorem r_188_419 : sm_ic 188 419 = some (.iconst 1, 0, 0, 0) := by decide +kernel
theorem r_188_420 : sm_ic 188 420 = some (.iadd, 0, 0, 0) := by decide +kernel
theorem r_188_421 : sm_ic 188 421 = some (.iaload, 0, 0, 0) := by decide +kernel
theorem r_188_422 : sm_ic 188 422 = some (.aload_n 0, 0, 0, 0) := by decide +kernel
theorem r_188_423 : sm_ic 188 423 = some (.iload_n 3, 0, 0, 0) := by decide +kernel
theorem r_188_424 : sm_ic 188 424 = some (.iconst 2, 0, 0, 0) := by decide +kernel
theorem r_188_425 : sm_ic 188 425 = some (.iadd, 0, 0, 0) := by decide +kernel
theorem r_188_426 : sm_ic 188 426 = some (.iaload, 0, 0, 0) := by decide +kernel
theorem r_188_427 : sm_ic 188 427 = some (.invokevirtual 59, 161, 3, 931) := by decide +kernel
theorem r_188_430 : sm_ic 188 430 = some (.if_icmp .eq 485, 915, 0, 0) := by decide +kernel
theorem r_188_433 : sm_ic 188 433 = some (.iconst 0, 0, 0, 0) := by decide +kernel
theorem r_188_434 : sm_ic 188 434 = some (.ireturn, 0, 0, 0) := by decide +kernel
theorem r_188_435 : sm_ic 188 435 = some (.aload_n 1, 0, 0, 0) := by decide +kernel
theorem r_188_436 : sm_ic 188 436 = some (.aload_n 0, 0, 0, 0) := by decide +kernel
theorem r_188_437 : sm_ic 188 437 = some (.iload_n 3, 0, 0, 0) := by decide +kernel
theorem r_188_438 : sm_ic 188 438 = some (.iconst 1, 0, 0, 0) := by decide +kernel
theorem r_188_439 : sm_ic 188 439 = some (.iadd, 0, 0, 0) := by decide +kernel
theorem r_188_440 : sm_ic 188 440 = some (.iaload, 0, 0, 0) := by decide +kernel
theorem r_188_441 : sm_ic 188 441 = some (.aload_n 0, 0, 0, 0) := by decide +kernel
theorem r_188_442 : sm_ic 188 442 = some (.iload_n 3, 0, 0, 0) := by decide +kernel
theorem r_188_443 : sm_ic 188 443 = some (.iconst 2, 0, 0, 0) := by decide +kernel
theorem r_188_444 : sm_ic 188 444 = some (.iadd, 0, 0, 0) := by decide +kernel
theorem r_188_445 : sm_ic 188 445 = some (.iaload, 0, 0, 0) := by decide +kernel
theorem r_188_446 : sm_ic 188 446 = some (.invokevirtual 60, 88, 3, 558) := by decide +kernel
theorem r_188_449 : sm_ic 188 449 = some (.aload_n 2, 0, 0, 0) := by decide +kernel
theorem r_188_450 : sm_ic 188 450 = some (.aload_n 0, 0, 0, 0) := by decide +kernel
theorem r_188_451 : sm_ic 188 451 = some (.iload_n 3, 0, 0, 0) := by decide +kernel
theorem r_188_452 : sm_ic 188 452 = some (.iconst 1, 0, 0, 0) := by decide +kernel
theorem r_188_453 : sm_ic 188 453 = some (.iadd, 0, 0, 0) := by decide +kernel
theorem r_188_454 : sm_ic 188 454 = some (.iaload, 0, 0, 0) := by decide +kernel
theorem r_188_455 : sm_ic 188 455 = some (.aload_n 0, 0, 0, 0) := by decide +kernel
theorem r_188_456 : sm_ic 188 456 = some (.iload_n 3, 0, 0, 0) := by decide +kernel
theorem r_188_457 : sm_ic 188 457 = some (.iconst 2, 0, 0, 0) := by decide +kernel
theorem r_188_458 : sm_ic 188 458 = some (.iadd, 0, 0, 0) := by decide +kernel
theorem r_188_459 : sm_ic 188 459 = some (.iaload, 0, 0, 0) := by decide +kernel
theorem r_188_460 : sm_ic 188 460 = some (.invokevirtual 63, 163, 3, 939) := by decide +kernel
theorem r_188_463 : sm_ic 188 463 = some (.if_icmp .eq 452, 915, 0, 0) := by decide +kernel
theorem r_188_466 : sm_ic 188 466 = some (.iconst 0, 0, 0, 0) := by decide +kernel
theorem r_188_467 : sm_ic 188 467 = some (.ireturn, 0, 0, 0) := by decide +kernel
theorem r_188_468 : sm_ic 188 468 = some (.aload_n 1, 0, 0, 0) := by decide +kernel
theorem r_188_469 : sm_ic 188 469 = some (.aload_n 0, 0, 0, 0) := by decide +kernel
theorem r_188_470 : sm_ic 188 470 = some (.iload_n 3, 0, 0, 0) := by decide +kernel
theorem r_188_471 : sm_ic 188 471 = some (.iconst 1, 0, 0, 0) := by decide +kernel
theorem r_188_472 : sm_ic 188 472 = some (.iadd, 0, 0, 0) := by decide +kernel
theorem r_188_473 : sm_ic 188 473 = some (.iaload, 0, 0, 0) := by decide +kernel
theorem r_188_474 : sm_ic 188 474 = some (.aload_n 0, 0, 0, 0) := by decide +kernel
theorem r_188_475 : sm_ic 188 475 = some (.iload_n 3, 0, 0, 0) := by decide +kernel
theorem r_188_476 : sm_ic 188 476 = some (.iconst 2, 0, 0, 0) := by decide +kernel
theorem r_188_477 : sm_ic 188 477 = some (.iadd, 0, 0, 0) := by decide +kernel
theorem r_188_478 : sm_ic 188 478 = some (.iaload, 0, 0, 0) := by decide +kernel
theorem r_188_479 : sm_ic 188 479 = some (.invokevirtual 64, 92, 3, 575) := by decide +kernel
theorem r_188_482 : sm_ic 188 482 = some (.aload_n 2, 0, 0, 0) := by decide +kernel
theorem r_188_483 : sm_ic 188 483 = some (.aload_n 0, 0, 0, 0) := by decide +kernel
theorem r_188_484 : sm_ic 188 484 = some (.iload_n 3, 0, 0, 0) := by decide +kernel
theorem r_188_485 : sm_ic 188 485 = some (.iconst 1, 0, 0, 0) := by decide +kernel
theorem r_188_486 : sm_ic 188 486 = some (.iadd, 0, 0, 0) := by decide +kernel
theorem r_188_487 : sm_ic 188 487 = some (.iaload, 0, 0, 0) := by decide +kernel
theorem r_188_488 : sm_ic 188 488 = some (.aload_n 0, 0, 0, 0) := by decide +kernel
theorem r_188_489 : sm_ic 188 489 = some (.iload_n 3, 0, 0, 0) := by decide +kernel
theorem r_188_490 : sm_ic 188 490 = some (.iconst 2, 0, 0, 0) := by decide +kernel
theorem r_188_491 : sm_ic 188 491 = some (.iadd, 0, 0, 0) := by decide +kernel
theorem r_188_492 : sm_ic 188 492 = some (.iaload, 0, 0, 0) := by decide +kernel
theorem r_188_493 : sm_ic 188 493 = some (.invokevirtual 67, 166, 3, 951) := by decide +kernel
theorem r_188_496 : sm_ic 188 496 = some (.if_icmp .eq 419, 915, 0, 0) := by decide +kernel
theorem r_188_499 : sm_ic 188 499 = some (.iconst 0, 0, 0, 0) := by decide +kernel
theorem r_188_500 : sm_ic 188 500 = some (.ireturn, 0, 0, 0) := by decide +kernel
theorem r_188_501 : sm_ic 188 501 = some (.aload_n 1, 0, 0, 0) := by decide +kernel
theorem r_188_502 : sm_ic 188 502 = some (.aload_n 0, 0, 0, 0) := by decide +kernel
theorem r_188_503 : sm_ic 188 503 = some (.iload_n 3, 0, 0, 0) := by decide +kernel
theorem r_188_504 : sm_ic 188 504 = some (.iconst 1, 0, 0, 0) := by decide +kernel
theorem r_188_505 : sm_ic 188 505 = some (.iadd, 0, 0, 0) := by decide +kernel
theorem r_188_506 : sm_ic 188 506 = some (.iaload, 0, 0, 0) := by decide +kernel
theorem r_188_507 : sm_ic 188 507 = some (.invokevirtual 68, 93, 2, 580) := by decide +kernel
theorem r_188_510 : sm_ic 188 510 = some (.aload_n 2, 0, 0, 0) := by decide +kernel
theorem r_188_511 : sm_ic 188 511 = some (.aload_n 0, 0, 0, 0) := by decide +kernel
theorem r_188_512 : sm_ic 188 512 = some (.iload_n 3, 0, 0, 0) := by decide +kernel
theorem r_188_513 : sm_ic 188 513 = some (.iconst 1, 0, 0, 0) := by decide +kernel
theorem r_188_514 : sm_ic 188 514 = some (.iadd, 0, 0, 0) := by decide +kernel
theorem r_188_515 : sm_ic 188 515 = some (.iaload, 0, 0, 0) := by decide +kernel
theorem r_188_516 : sm_ic 188 516 = some (.invokevirtual 71, 167, 2, 955) := by decide +kernel
theorem r_188_519 : sm_ic 188 519 = some (.if_icmp .eq 396, 915, 0, 0) := by decide +kernel
theorem r_188_522 : sm_ic 188 522 = some (.iconst 0, 0, 0, 0) := by decide +kernel
theorem r_188_523 : sm_ic 188 523 = some (.ireturn, 0, 0, 0) := by decide +kernel
theorem r_188_524 : sm_ic 188 524 = some (.aload_n 1, 0, 0, 0) := by decide +kernel
theorem r_188_525 : sm_ic 188 525 = some (.aload_n 0, 0, 0, 0) := by decide +kernel
theorem r_188_526 : sm_ic 188 526 = some (.iload_n 3, 0, 0, 0) := by decide +kernel
theorem r_188_527 : sm_ic 188 527 = some (.iconst 1, 0, 0, 0) := by decide +kernel
theorem r_188_528 : sm_ic 188 528 = some (.iadd, 0, 0, 0) := by decide +kernel
theorem r_188_529 : sm_ic 188 529 = some (.iaload, 0, 0, 0) := by decide +kernel
theorem r_188_530 : sm_ic 188 530 = some (.invokevirtual 72, 95, 2, 587) := by decide +kernel
theorem r_188_533 : sm_ic 188 533 = some (.aload_n 2, 0, 0, 0) := by decide +kernel
theorem r_188_534 : sm_ic 188 534 = some (.aload_n 0, 0, 0, 0) := by decide +kernel
theorem r_188_535 : sm_ic 188 535 = some (.iload_n 3, 0, 0, 0) := by decide +kernel
theorem r_188_536 : sm_ic 188 536 = some (.iconst 1, 0, 0, 0) := by decide +kernel
theorem r_188_537 : sm_ic 188 537 = some (.iadd, 0, 0, 0) := by decide +kernel
theorem r_188_538 : sm_ic 188 538 = some (.iaload, 0, 0, 0) := by decide +kernel
theorem r_188_539 : sm_ic 188 539 = some (.invokevirtual 75, 168, 2, 959) := by decide +kernel
theorem r_188_542 : sm_ic 188 542 = some (.if_icmp .eq 373, 915, 0, 0) := by decide +kernel
theorem r_188_545 : sm_ic 188 545 = some (.iconst 0, 0, 0, 0) := by decide +kernel
theorem r_188_546 : sm_ic 188 546 = some (.ireturn, 0, 0, 0) := by decide +kernel
theorem r_188_547 : sm_ic 188 547 = some (.aload_n 1, 0, 0, 0) := by decide +kernel
theorem r_188_548 : sm_ic 188 548 = some (.invokevirtual 76, 97, 1, 596) := by decide +kernel
theorem r_188_551 : sm_ic 188 551 = some (.aload_n 2, 0, 0, 0) := by decide +kernel
theorem r_188_552 : sm_ic 188 552 = some (.invokevirtual 79, 169, 1, 963) := by decide +kernel
theorem r_188_555 : sm_ic 188 555 = some (.if_icmp .eq 360, 915, 0, 0) := by decide +kernel
theorem r_188_558 : sm_ic 188 558 = some (.iconst 0, 0, 0, 0) := by decide +kernel
theorem r_188_559 : sm_ic 188 559 = some (.ireturn, 0, 0, 0) := by decide +kernel
theorem r_188_560 : sm_ic 188 560 = some (.aload_n 1, 0, 0, 0) := by decide +kernel
theorem r_188_561 : sm_ic 188 561 = some (.aload_n 0, 0, 0, 0) := by decide +kernel
theorem r_188_562 : sm_ic 188 562 = some (.iload_n 3, 0, 0, 0) := by decide +kernel
theorem r_188_563 : sm_ic 188 563 = some (.iconst 1, 0, 0, 0) := by decide +kernel
theorem r_188_564 : sm_ic 188 564 = some (.iadd, 0, 0, 0) := by decide +kernel
theorem r_188_565 : sm_ic 188 565 = some (.iaload, 0, 0, 0) := by decide +kernel
theorem r_188_566 : sm_ic 188 566 = some (.invokevirtual 80, 100, 2, 608) := by decide +kernel
theorem r_188_569 : sm_ic 188 569 = some (.aload_n 2, 0, 0, 0) := by decide +kernel
theorem r_188_570 : sm_ic 188 570 = some (.aload_n 0, 0, 0, 0) := by decide +kernel
theorem r_188_571 : sm_ic 188 571 = some (.iload_n 3, 0, 0, 0) := by decide +kernel
theorem r_188_572 : sm_ic 188 572 = some (.iconst 1, 0, 0, 0) := by decide +kernel
theorem r_188_573 : sm_ic 188 573 = some (.iadd, 0, 0, 0) := by decide +kernel
theorem r_188_574 : sm_ic 188 574 = some (.iaload, 0, 0, 0) := by decide +kernel
theorem r_188_575 : sm_ic 188 575 = some (.invokevirtual 83, 170, 2, 967) := by decide +kernel
theorem r_188_578 : sm_ic 188 578 = some (.if_icmp .eq 337, 915, 0, 0) := by decide +kernel
theorem r_188_581 : sm_ic 188 581 = some (.iconst 0, 0, 0, 0) := by decide +kernel
theorem r_188_582 : sm_ic 188 582 = some (.ireturn, 0, 0, 0) := by decide +kernel
theorem r_188_583 : sm_ic 188 583 = some (.aload_n 1, 0, 0, 0) := by decide +kernel
theorem r_188_584 : sm_ic 188 584 = some (.aload_n 0, 0, 0, 0) := by decide +kernel
theorem r_188_585 : sm_ic 188 585 = some (.iload_n 3, 0, 0, 0) := by decide +kernel
theorem r_188_586 : sm_ic 188 586 = some (.iconst 1, 0, 0, 0) := by decide +kernel
theorem r_188_587 : sm_ic 188 587 = some (.iadd, 0, 0, 0) := by decide +kernel
theorem r_188_588 : sm_ic 188 588 = some (.iaload, 0, 0, 0) := by decide +kernel
theorem r_188_589 : sm_ic 188 589 = some (.invokevirtual 84, 101, 2, 612) := by decide +kernel
theorem r_188_592 : sm_ic 188 592 = some (.aload_n 2, 0, 0, 0) := by decide +kernel
theorem r_188_593 : sm_ic 188 593 = some (.aload_n 0, 0, 0, 0) := by decide +kernel
theorem r_188_594 : sm_ic 188 594 = some (.iload_n 3, 0, 0, 0) := by decide +kernel
theorem r_188_595 : sm_ic 188 595 = some (.iconst 1, 0, 0, 0) := by decide +kernel
theorem r_188_596 : sm_ic 188 596 = some (.iadd, 0, 0, 0) := by decide +kernel
theorem r_188_597 : sm_ic 188 597 = some (.iaload, 0, 0, 0) := by decide +kernel
theorem r_188_598 : sm_ic 188 598 = some (.invokevirtual 87, 172, 2, 975) := by decide +kernel
theorem r_188_601 : sm_ic 188 601 = some (.if_icmp .eq 314, 915, 0, 0) := by decide +kernel
theorem r_188_604 : sm_ic 188 604 = some (.iconst 0, 0, 0, 0) := by decide +kernel
theorem r_188_605 : sm_ic 188 605 = some (.ireturn, 0, 0, 0) := by decide +kernel
theorem r_188_606 : sm_ic 188 606 = some (.aload_n 1, 0, 0, 0) := by decide +kernel
theorem r_188_607 : sm_ic 188 607 = some (.invokevirtual 88, 102, 1, 617) := by decide +kernel
theorem r_188_610 : sm_ic 188 610 = some (.aload_n 2, 0, 0, 0) := by decide +kernel
theorem r_188_611 : sm_ic 188 611 = some (.invokevirtual 91, 173, 1, 979) := by decide +kernel
theorem r_188_614 : sm_ic 188 614 = some (.if_icmp .eq 301, 915, 0, 0) := by decide +kernel
theorem r_188_617 : sm_ic 188 617 = some (.iconst 0, 0, 0, 0) := by decide +kernel
theorem r_188_618 : sm_ic 188 618 = some (.ireturn, 0, 0, 0) := by decide +kernel
theorem r_188_619 : sm_ic 188 619 = some (.aload_n 1, 0, 0, 0) := by decide +kernel
theorem r_188_620 : sm_ic 188 620 = some (.aload_n 0, 0, 0, 0) := by decide +kernel
theorem r_188_621 : sm_ic 188 621 = some (.iload_n 3, 0, 0, 0) := by decide +kernel
theorem r_188_622 : sm_ic 188 622 = some (.iconst 1, 0, 0, 0) := by decide +kernel
theorem r_188_623 : sm_ic 188 623 = some (.iadd, 0, 0, 0) := by decide +kernel
theorem r_188_624 : sm_ic 188 624 = some (.iaload, 0, 0, 0) := by decide +kernel
theorem r_188_625 : sm_ic 188 625 = some (.invokevirtual 92, 104, 2, 628) := by decide +kernel
theorem r_188_628 : sm_ic 188 628 = some (.aload_n 2, 0, 0, 0) := by decide +kernel
theorem r_188_629 : sm_ic 188 629 = some (.aload_n 0, 0, 0, 0) := by decide +kernel
theorem r_188_630 : sm_ic 188 630 = some (.iload_n 3, 0, 0, 0) := by decide +kernel
theorem r_188_631 : sm_ic 188 631 = some (.iconst 1, 0, 0, 0) := by decide +kernel
theorem r_188_632 : sm_ic 188 632 = some (.iadd, 0, 0, 0) := by decide +kernel
theorem r_188_633 : sm_ic 188 633 = some (.iaload, 0, 0, 0) := by decide +kernel
theorem r_188_634 : sm_ic 188 634 = some (.invokevirtual 95, 174, 2, 983) := by decide +kernel
theorem r_188_637 : sm_ic 188 637 = some (.if_icmp .eq 278, 915, 0, 0) := by decide +kernel
theorem r_188_640 : sm_ic 188 640 = some (.iconst 0, 0, 0, 0) := by decide +kernel
theorem r_188_641 : sm_ic 188 641 = some (.ireturn, 0, 0, 0) := by decide +kernel
theorem r_188_642 : sm_ic 188 642 = some (.aload_n 1, 0, 0, 0) := by decide +kernel
theorem r_188_643 : sm_ic 188 643 = some (.aload_n 0, 0, 0, 0) := by decide +kernel
theorem r_188_644 : sm_ic 188 644 = some (.iload_n 3, 0, 0, 0) := by decide +kernel
theorem r_188_645 : sm_ic 188 645 = some (.iconst 1, 0, 0, 0) := by decide +kernel
theorem r_188_646 : sm_ic 188 646 = some (.iadd, 0, 0, 0) := by decide +kernel
theorem r_188_647 : sm_ic 188 647 = some (.iaload, 0, 0, 0) := by decide +kernel
theorem r_188_648 : sm_ic 188 648 = some (.aload_n 0, 0, 0, 0) := by decide +kernel
theorem r_188_649 : sm_ic 188 649 = some (.iload_n 3, 0, 0, 0) := by decide +kernel
theorem r_188_650 : sm_ic 188 650 = some (.iconst 2, 0, 0, 0) := by decide +kernel
theorem r_188_651 : sm_ic 188 651 = some (.iadd, 0, 0, 0) := by decide +kernel
theorem r_188_652 : sm_ic 188 652 = some (.iaload, 0, 0, 0) := by decide +kernel
theorem r_188_653 : sm_ic 188 653 = some (.invokevirtual 96, 105, 3, 633) := by decide +kernel
theorem r_188_656 : sm_ic 188 656 = some (.aload_n 2, 0, 0, 0) := by decide +kernel
theorem r_188_657 : sm_ic 188 657 = some (.aload_n 0, 0, 0, 0) := by decide +kernel
theorem r_188_658 : sm_ic 188 658 = some (.iload_n 3, 0, 0, 0) := by decide +kernel
theorem r_188_659 : sm_ic 188 659 = some (.iconst 1, 0, 0, 0) := by decide +kernel
theorem r_188_660 : sm_ic 188 660 = some (.iadd, 0, 0, 0) := by decide +kernel
theorem r_188_661 : sm_ic 188 661 = some (.iaload, 0, 0, 0) := by decide +kernel
theorem r_188_662 : sm_ic 188 662 = some (.aload_n 0, 0, 0, 0) := by decide +kernel
theorem r_188_663 : sm_ic 188 663 = some (.iload_n 3, 0, 0, 0) := by decide +kernel
theorem r_188_664 : sm_ic 188 664 = some (.iconst 2, 0, 0, 0) := by decide +kernel
theorem r_188_665 : sm_ic 188 665 = some (.iadd, 0, 0, 0) := by decide +kernel
theorem r_188_666 : sm_ic 188 666 = some (.iaload, 0, 0, 0) := by decide +kernel
theorem r_188_667 : sm_ic 188 667 = some (.invokevirtual 99, 175, 3, 987) := by decide +kernel
theorem r_188_670 : sm_ic 188 670 = some (.if_icmp .eq 245, 915, 0, 0) := by decide +kernel
theorem r_188_673 : sm_ic 188 673 = some (.iconst 0, 0, 0, 0) := by decide +kernel
theorem r_188_674 : sm_ic 188 674 = some (.ireturn, 0, 0, 0) := by decide +kernel
theorem r_188_675 : sm_ic 188 675 = some (.aload_n 1, 0, 0, 0) := by decide +kernel
theorem r_188_676 : sm_ic 188 676 = some (.aload_n 0, 0, 0, 0) := by decide +kernel
theorem r_188_677 : sm_ic 188 677 = some (.iload_n 3, 0, 0, 0) := by decide +kernel
theorem r_188_678 : sm_ic 188 678 = some (.iconst 1, 0, 0, 0) := by decide +kernel
theorem r_188_679 : sm_ic 188 679 = some (.iadd, 0, 0, 0) := by decide +kernel
theorem r_188_680 : sm_ic 188 680 = some (.iaload, 0, 0, 0) := by decide +kernel
theorem r_188_681 : sm_ic 188 681 = some (.invokevirtual 100, 106, 2, 637) := by decide +kernel
theorem r_188_684 : sm_ic 188 684 = some (.aload_n 2, 0, 0, 0) := by decide +kernel
theorem r_188_685 : sm_ic 188 685 = some (.aload_n 0, 0, 0, 0) := by decide +kernel
theorem r_188_686 : sm_ic 188 686 = some (.iload_n 3, 0, 0, 0) := by decide +kernel
theorem r_188_687 : sm_ic 188 687 = some (.iconst 1, 0, 0, 0) := by decide +kernel
theorem r_188_688 : sm_ic 188 688 = some (.iadd, 0, 0, 0) := by decide +kernel
theorem r_188_689 : sm_ic 188 689 = some (.iaload, 0, 0, 0) := by decide +kernel
theorem r_188_690 : sm_ic 188 690 = some (.invokevirtual 103, 176, 2, 991) := by decide +kernel
theorem r_188_693 : sm_ic 188 693 = some (.if_icmp .eq 222, 915, 0, 0) := by decide +kernel
theorem r_188_696 : sm_ic 188 696 = some (.iconst 0, 0, 0, 0) := by decide +kernel
theorem r_188_697 : sm_ic 188 697 = some (.ireturn, 0, 0, 0) := by decide +kernel
theorem r_188_698 : sm_ic 188 698 = some (.aload_n 1, 0, 0, 0) := by decide +kernel
theorem r_188_699 : sm_ic 188 699 = some (.aload_n 0, 0, 0, 0) := by decide +kernel
theorem r_188_700 : sm_ic 188 700 = some (.iload_n 3, 0, 0, 0) := by decide +kernel
theorem r_188_701 : sm_ic 188 701 = some (.iconst 1, 0, 0, 0) := by decide +kernel
theorem r_188_702 : sm_ic 188 702 = some (.iadd, 0, 0, 0) := by decide +kernel
theorem r_188_703 : sm_ic 188 703 = some (.iaload, 0, 0, 0) := by decide +kernel
theorem r_188_704 : sm_ic 188 704 = some (.aload_n 0, 0, 0, 0) := by decide +kernel
theorem r_188_705 : sm_ic 188 705 = some (.iload_n 3, 0, 0, 0) := by decide +kernel
theorem r_188_706 : sm_ic 188 706 = some (.iconst 2, 0, 0, 0) := by decide +kernel
theorem r_188_707 : sm_ic 188 707 = some (.iadd, 0, 0, 0) := by decide +kernel
theorem r_188_708 : sm_ic 188 708 = some (.iaload, 0, 0, 0) := by decide +kernel
theorem r_188_709 : sm_ic 188 709 = some (.invokevirtual 104, 107, 3, 641) := by decide +kernel
theorem r_188_712 : sm_ic 188 712 = some (.aload_n 2, 0, 0, 0) := by decide +kernel
theorem r_188_713 : sm_ic 188 713 = some (.aload_n 0, 0, 0, 0) := by decide +kernel
theorem r_188_714 : sm_ic 188 714 = some (.iload_n 3, 0, 0, 0) := by decide +kernel
theorem r_188_715 : sm_ic 188 715 = some (.iconst 1, 0, 0, 0) := by decide +kernel
theorem r_188_716 : sm_ic 188 716 = some (.iadd, 0, 0, 0) := by decide +kernel
theorem r_188_717 : sm_ic 188 717 = some (.iaload, 0, 0, 0) := by decide +kernel
theorem r_188_718 : sm_ic 188 718 = some (.aload_n 0, 0, 0, 0) := by decide +kernel
theorem r_188_719 : sm_ic 188 719 = some (.iload_n 3, 0, 0, 0) := by decide +kernel
theorem r_188_720 : sm_ic 188 720 = some (.iconst 2, 0, 0, 0) := by decide +kernel
theorem r_188_721 : sm_ic 188 721 = some (.iadd, 0, 0, 0) := by decide +kernel
theorem r_188_722 : sm_ic 188 722 = some (.iaload, 0, 0, 0) := by decide +kernel
theorem r_188_723 : sm_ic 188 723 = some (.invokevirtual 107, 177, 3, 995) := by decide +kernel
theorem r_188_726 : sm_ic 188 726 = some (.if_icmp .eq 189, 915, 0, 0) := by decide +kernel
theorem r_188_729 : sm_ic 188 729 = some (.iconst 0, 0, 0, 0) := by decide +kernel
theorem r_188_730 : sm_ic 188 730 = some (.ireturn, 0, 0, 0) := by decide +kernel
theorem r_188_731 : sm_ic 188 731 = some (.aload_n 1, 0, 0, 0) := by decide +kernel
theorem r_188_732 : sm_ic 188 732 = some (.invokevirtual 108, 110, 1, 653) := by decide +kernel
theorem r_188_735 : sm_ic 188 735 = some (.aload_n 2, 0, 0, 0) := by decide +kernel
theorem r_188_736 : sm_ic 188 736 = some (.invokevirtual 111, 178, 1, 999) := by decide +kernel
theorem r_188_739 : sm_ic 188 739 = some (.if_icmp .eq 176, 915, 0, 0) := by decide +kernel
theorem r_188_742 : sm_ic 188 742 = some (.iconst 0, 0, 0, 0) := by decide +kernel
theorem r_188_743 : sm_ic 188 743 = some (.ireturn, 0, 0, 0) := by decide +kernel
theorem r_188_744 : sm_ic 188 744 = some (.aload_n 1, 0, 0, 0) := by decide +kernel
theorem r_188_745 : sm_ic 188 745 = some (.aload_n 0, 0, 0, 0) := by decide +kernel
theorem r_188_746 : sm_ic 188 746 = some (.iload_n 3, 0, 0, 0) := by decide +kernel
theorem r_188_747 : sm_ic 188 747 = some (.iconst 1, 0, 0, 0) := by decide +kernel
theorem r_188_748 : sm_ic 188 748 = some (.iadd, 0, 0, 0) := by decide +kernel
theorem r_188_749 : sm_ic 188 749 = some (.iaload, 0, 0, 0) := by decide +kernel
theorem r_188_750 : sm_ic 188 750 = some (.invokevirtual 112, 111, 2, 657) := by decide +kernel
theorem r_188_753 : sm_ic 188 753 = some (.aload_n 2, 0, 0, 0) := by decide +kernel
theorem r_188_754 : sm_ic 188 754 = some (.aload_n 0, 0, 0, 0) := by decide +kernel
theorem r_188_755 : sm_ic 188 755 = some (.iload_n 3, 0, 0, 0) := by decide +kernel
theorem r_188_756 : sm_ic 188 756 = some (.iconst 1, 0, 0, 0) := by decide +kernel
theorem r_188_757 : sm_ic 188 757 = some (.iadd, 0, 0, 0) := by decide +kernel
theorem r_188_758 : sm_ic 188 758 = some (.iaload, 0, 0, 0) := by decide +kernel
theorem r_188_759 : sm_ic 188 759 = some (.invokevirtual 115, 179, 2, 1003) := by decide +kernel
theorem r_188_762 : sm_ic 188 762 = some (.if_icmp .eq 153, 915, 0, 0) := by decide +kernel
theorem r_188_765 : sm_ic 188 765 = some (.iconst 0, 0, 0, 0) := by decide +kernel
theorem r_188_766 : sm_ic 188 766 = some (.ireturn, 0, 0, 0) := by decide +kernel
theorem r_188_767 : sm_ic 188 767 = some (.aload_n 1, 0, 0, 0) := by decide +kernel
theorem r_188_768 : sm_ic 188 768 = some (.aload_n 0, 0, 0, 0) := by decide +kernel
theorem r_188_769 : sm_ic 188 769 = some (.iload_n 3, 0, 0, 0) := by decide +kernel
theorem r_188_770 : sm_ic 188 770 = some (.iconst 1, 0, 0, 0) := by decide +kernel
theorem r_188_771 : sm_ic 188 771 = some (.iadd, 0, 0, 0) := by decide +kernel
theorem r_188_772 : sm_ic 188 772 = some (.iaload, 0, 0, 0) := by decide +kernel
theorem r_188_773 : sm_ic 188 773 = some (.aload_n 0, 0, 0, 0) := by decide +kernel
theorem r_188_774 : sm_ic 188 774 = some (.iload_n 3, 0, 0, 0) := by decide +kernel
theorem r_188_775 : sm_ic 188 775 = some (.iconst 2, 0, 0, 0) := by decide +kernel
theorem r_188_776 : sm_ic 188 776 = some (.iadd, 0, 0, 0) := by decide +kernel
theorem r_188_777 : sm_ic 188 777 = some (.iaload, 0, 0, 0) := by decide +kernel
theorem r_188_778 : sm_ic 188 778 = some (.invokevirtual 116, 115, 3, 673) := by decide +kernel
theorem r_188_781 : sm_ic 188 781 = some (.aload_n 2, 0, 0, 0) := by decide +kernel
theorem r_188_782 : sm_ic 188 782 = some (.aload_n 0, 0, 0, 0) := by decide +kernel
theorem r_188_783 : sm_ic 188 783 = some (.iload_n 3, 0, 0, 0) := by decide +kernel
theorem r_188_784 : sm_ic 188 784 = some (.iconst 1, 0, 0, 0) := by decide +kernel
theorem r_188_785 : sm_ic 188 785 = some (.iadd, 0, 0, 0) := by decide +kernel
theorem r_188_786 : sm_ic 188 786 = some (.iaload, 0, 0, 0) := by decide +kernel
theorem r_188_787 : sm_ic 188 787 = some (.aload_n 0, 0, 0, 0) := by decide +kernel
theorem r_188_788 : sm_ic 188 788 = some (.iload_n 3, 0, 0, 0) := by decide +kernel
theorem r_188_789 : sm_ic 188 789 = some (.iconst 2, 0, 0, 0) := by decide +kernel
theorem r_188_790 : sm_ic 188 790 = some (.iadd, 0, 0, 0) := by decide +kernel
theorem r_188_791 : sm_ic 188 791 = some (.iaload, 0, 0, 0) := by decide +kernel
theorem r_188_792 : sm_ic 188 792 = some (.invokevirtual 119, 180, 3, 1007) := by decide +kernel
theorem r_188_795 : sm_ic 188 795 = some (.if_icmp .eq 120, 915, 0, 0) := by decide +kernel
theorem r_188_798 : sm_ic 188 798 = some (.iconst 0, 0, 0, 0) := by decide +kernel
theorem r_188_799 : sm_ic 188 799 = some (.ireturn, 0, 0, 0) := by decide +kernel
theorem r_188_800 : sm_ic 188 800 = some (.aload_n 1, 0, 0, 0) := by decide +kernel
theorem r_188_801 : sm_ic 188 801 = some (.aload_n 0, 0, 0, 0) := by decide +kernel
theorem r_188_802 : sm_ic 188 802 = some (.iload_n 3, 0, 0, 0) := by decide +kernel
theorem r_188_803 : sm_ic 188 803 = some (.iconst 1, 0, 0, 0) := by decide +kernel
theorem r_188_804 : sm_ic 188 804 = some (.iadd, 0, 0, 0) := by decide +kernel
theorem r_188_805 : sm_ic 188 805 = some (.iaload, 0, 0, 0) := by decide +kernel
theorem r_188_806 : sm_ic 188 806 = some (.invokevirtual 120, 120, 2, 691) := by decide +kernel
theorem r_188_809 : sm_ic 188 809 = some (.aload_n 2, 0, 0, 0) := by decide +kernel
theorem r_188_810 : sm_ic 188 810 = some (.aload_n 0, 0, 0, 0) := by decide +kernel
theorem r_188_811 : sm_ic 188 811 = some (.iload_n 3, 0, 0, 0) := by decide +kernel
theorem r_188_812 : sm_ic 188 812 = some (.iconst 1, 0, 0, 0) := by decide +kernel
theorem r_188_813 : sm_ic 188 813 = some (.iadd, 0, 0, 0) := by decide +kernel
theorem r_188_814 : sm_ic 188 814 = some (.iaload, 0, 0, 0) := by decide +kernel
theorem r_188_815 : sm_ic 188 815 = some (.invokevirtual 123, 182, 2, 1014) := by decide +kernel
theorem r_188_818 : sm_ic 188 818 = some (.if_icmp .eq 97, 915, 0, 0) := by decide +kernel
theorem r_188_821 : sm_ic 188 821 = some (.iconst 0, 0, 0, 0) := by decide +kernel
theorem r_188_822 : sm_ic 188 822 = some (.ireturn, 0, 0, 0) := by decide +kernel
theorem r_188_823 : sm_ic 188 823 = some (.aload_n 1, 0, 0, 0) := by decide +kernel
theorem r_188_824 : sm_ic 188 824 = some (.aload_n 0, 0, 0, 0) := by decide +kernel
theorem r_188_825 : sm_ic 188 825 = some (.iload_n 3, 0, 0, 0) := by decide +kernel
theorem r_188_826 : sm_ic 188 826 = some (.iconst 1, 0, 0, 0) := by decide +kernel
theorem r_188_827 : sm_ic 188 827 = some (.iadd, 0, 0, 0) := by decide +kernel
theorem r_188_828 : sm_ic 188 828 = some (.iaload, 0, 0, 0) := by decide +kernel
theorem r_188_829 : sm_ic 188 829 = some (.aload_n 0, 0, 0, 0) := by decide +kernel
theorem r_188_830 : sm_ic 188 830 = some (.iload_n 3, 0, 0, 0) := by decide +kernel
theorem r_188_831 : sm_ic 188 831 = some (.iconst 2, 0, 0, 0) := by decide +kernel
theorem r_188_832 : sm_ic 188 832 = some (.iadd, 0, 0, 0) := by decide +kernel
theorem r_188_833 : sm_ic 188 833 = some (.iaload, 0, 0, 0) := by decide +kernel
theorem r_188_834 : sm_ic 188 834 = some (.aload_n 0, 0, 0, 0) := by decide +kernel
theorem r_188_835 : sm_ic 188 835 = some (.iload_n 3, 0, 0, 0) := by decide +kernel
theorem r_188_836 : sm_ic 188 836 = some (.iconst 3, 0, 0, 0) := by decide +kernel
theorem r_188_837 : sm_ic 188 837 = some (.iadd, 0, 0, 0) := by decide +kernel
theorem r_188_838 : sm_ic 188 838 = some (.iaload, 0, 0, 0) := by decide +kernel
theorem r_188_839 : sm_ic 188 839 = some (.invokevirtual 124, 121, 4, 695) := by decide +kernel
theorem r_188_842 : sm_ic 188 842 = some (.aload_n 2, 0, 0, 0) := by decide +kernel
theorem r_188_843 : sm_ic 188 843 = some (.aload_n 0, 0, 0, 0) := by decide +kernel
theorem r_188_844 : sm_ic 188 844 = some (.iload_n 3, 0, 0, 0) := by decide +kernel
theorem r_188_845 : sm_ic 188 845 = some (.iconst 1, 0, 0, 0) := by decide +kernel
theorem r_188_846 : sm_ic 188 846 = some (.iadd, 0, 0, 0) := by decide +kernel
theorem r_188_847 : sm_ic 188 847 = some (.iaload, 0, 0, 0) := by decide +kernel
theorem r_188_848 : sm_ic 188 848 = some (.aload_n 0, 0, 0, 0) := by decide +kernel
theorem r_188_849 : sm_ic 188 849 = some (.iload_n 3, 0, 0, 0) := by decide +kernel
theorem r_188_850 : sm_ic 188 850 = some (.iconst 2, 0, 0, 0) := by decide +kernel
theorem r_188_851 : sm_ic 188 851 = some (.iadd, 0, 0, 0) := by decide +kernel
theorem r_188_852 : sm_ic 188 852 = some (.iaload, 0, 0, 0) := by decide +kernel
theorem r_188_853 : sm_ic 188 853 = some (.aload_n 0, 0, 0, 0) := by decide +kernel
theorem r_188_854 : sm_ic 188 854 = some (.iload_n 3, 0, 0, 0) := by decide +kernel
theorem r_188_855 : sm_ic 188 855 = some (.iconst 3, 0, 0, 0) := by decide +kernel
theorem r_188_856 : sm_ic 188 856 = some (.iadd, 0, 0, 0) := by decide +kernel
theorem r_188_857 : sm_ic 188 857 = some (.iaload, 0, 0, 0) := by decide +kernel
theorem r_188_858 : sm_ic 188 858 = some (.invokevirtual 128, 183, 4, 1018) := by decide +kernel
theorem r_188_861 : sm_ic 188 861 = some (.if_icmp .eq 54, 915, 0, 0) := by decide +kernel
theorem r_188_864 : sm_ic 188 864 = some (.iconst 0, 0, 0, 0) := by decide +kernel
theorem r_188_865 : sm_ic 188 865 = some (.ireturn, 0, 0, 0) := by decide +kernel
theorem r_188_866 : sm_ic 188 866 = some (.aload_n 1, 0, 0, 0) := by decide +kernel
theorem r_188_867 : sm_ic 188 867 = some (.invokevirtual 129, 123, 1, 705) := by decide +kernel
theorem r_188_870 : sm_ic 188 870 = some (.aload_n 2, 0, 0, 0) := by decide +kernel
theorem r_188_871 : sm_ic 188 871 = some (.invokevirtual 132, 184, 1, 1027) := by decide +kernel
theorem r_188_874 : sm_ic 188 874 = some (.if_icmp .eq 41, 915, 0, 0) := by decide +kernel
theorem r_188_877 : sm_ic 188 877 = some (.iconst 0, 0, 0, 0) := by decide +kernel
theorem r_188_878 : sm_ic 188 878 = some (.ireturn, 0, 0, 0) := by decide +kernel
theorem r_188_879 : sm_ic 188 879 = some (.aload_n 1, 0, 0, 0) := by decide +kernel
theorem r_188_880 : sm_ic 188 880 = some (.invokevirtual 133, 124, 1, 709) := by decide +kernel
theorem r_188_883 : sm_ic 188 883 = some (.aload_n 2, 0, 0, 0) := by decide +kernel
theorem r_188_884 : sm_ic 188 884 = some (.invokevirtual 136, 185, 1, 1031) := by decide +kernel
theorem r_188_887 : sm_ic 188 887 = some (.if_icmp .eq 28, 915, 0, 0) := by decide +kernel
theorem r_188_890 : sm_ic 188 890 = some (.iconst 0, 0, 0, 0) := by decide +kernel
theorem r_188_891 : sm_ic 188 891 = some (.ireturn, 0, 0, 0) := by decide +kernel
theorem r_188_892 : sm_ic 188 892 = some (.aload_n 1, 0, 0, 0) := by decide +kernel
theorem r_188_893 : sm_ic 188 893 = some (.aload_n 0, 0, 0, 0) := by decide +kernel
theorem r_188_894 : sm_ic 188 894 = some (.iload_n 3, 0, 0, 0) := by decide +kernel
theorem r_188_895 : sm_ic 188 895 = some (.iconst 1, 0, 0, 0) := by decide +kernel
theorem r_188_896 : sm_ic 188 896 = some (.iadd, 0, 0, 0) := by decide +kernel
theorem r_188_897 : sm_ic 188 897 = some (.iaload, 0, 0, 0) := by decide +kernel
theorem r_188_898 : sm_ic 188 898 = some (.invokevirtual 137, 125, 2, 713) := by decide +kernel
theorem r_188_901 : sm_ic 188 901 = some (.aload_n 2, 0, 0, 0) := by decide +kernel
theorem r_188_902 : sm_ic 188 902 = some (.aload_n 0, 0, 0, 0) := by decide +kernel
theorem r_188_903 : sm_ic 188 903 = some (.iload_n 3, 0, 0, 0) := by decide +kernel
theorem r_188_904 : sm_ic 188 904 = some (.iconst 1, 0, 0, 0) := by decide +kernel
theorem r_188_905 : sm_ic 188 905 = some (.iadd, 0, 0, 0) := by decide +kernel
theorem r_188_906 : sm_ic 188 906 = some (.iaload, 0, 0, 0) := by decide +kernel
theorem r_188_907 : sm_ic 188 907 = some (.invokevirtual 140, 186, 2, 1035) := by decide +kernel
theorem r_188_910 : sm_ic 188 910 = some (.if_icmp .eq 5, 915, 0, 0) := by decide +kernel
theorem r_188_913 : sm_ic 188 913 = some (.iconst 0, 0, 0, 0) := by decide +kernel
theorem r_188_914 : sm_ic 188 914 = some (.ireturn, 0, 0, 0) := by decide +kernel
theorem r_188_915 : sm_ic 188 915 = some (.iinc 3 4, 0, 0, 0) := by decide +kernel
theorem r_188_918 : sm_ic 188 918 = some (.goto (-900), 18, 0, 0) := by decide +kernel
theorem r_188_921 : sm_ic 188 921 = some (.iconst 1, 0, 0, 0) := by decide +kernel
theorem r_188_922 : sm_ic 188 922 = some (.ireturn, 0, 0, 0) := by decide +kernel
