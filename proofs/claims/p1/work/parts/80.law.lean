theorem dL_law_0 : decode cL_law 0 = .ok (.new 7, 3) := by decide +kernel
theorem dL_law_3 : decode cL_law 3 = .ok (.dup, 1) := by decide +kernel
theorem dL_law_4 : decode cL_law 4 = .ok (.invokespecial 9, 3) := by decide +kernel
theorem dL_law_7 : decode cL_law 7 = .ok (.astore_n 1, 1) := by decide +kernel
theorem dL_law_8 : decode cL_law 8 = .ok (.new 10, 3) := by decide +kernel
theorem dL_law_11 : decode cL_law 11 = .ok (.dup, 1) := by decide +kernel
theorem dL_law_12 : decode cL_law 12 = .ok (.invokespecial 12, 3) := by decide +kernel
theorem dL_law_15 : decode cL_law 15 = .ok (.astore_n 2, 1) := by decide +kernel
theorem dL_law_16 : decode cL_law 16 = .ok (.iconst 0, 1) := by decide +kernel
theorem dL_law_17 : decode cL_law 17 = .ok (.istore_n 3, 1) := by decide +kernel
theorem dL_law_18 : decode cL_law 18 = .ok (.iload_n 3, 1) := by decide +kernel
theorem dL_law_19 : decode cL_law 19 = .ok (.aload_n 0, 1) := by decide +kernel
theorem dL_law_20 : decode cL_law 20 = .ok (.arraylength, 1) := by decide +kernel
theorem dL_law_21 : decode cL_law 21 = .ok (.bipush 6, 2) := by decide +kernel
theorem dL_law_23 : decode cL_law 23 = .ok (.isub, 1) := by decide +kernel
theorem dL_law_24 : decode cL_law 24 = .ok (.if_icmp .gt 1119, 3) := by decide +kernel
theorem dL_law_27 : decode cL_law 27 = .ok (.aload_n 0, 1) := by decide +kernel
theorem dL_law_28 : decode cL_law 28 = .ok (.iload_n 3, 1) := by decide +kernel
theorem dL_law_29 : decode cL_law 29 = .ok (.iaload, 1) := by decide +kernel
theorem dL_law_30 : decode cL_law 30 = .ok (.bipush 31, 2) := by decide +kernel
theorem dL_law_32 : decode cL_law 32 = .ok (.iand, 1) := by decide +kernel
theorem dL_law_33 : decode cL_law 33 = .ok (.tableswitch 1104 0 28 #[131, 194, 217, 230, 243, 276, 309, 342, 375, 408, 441, 474, 527, 560, 573, 606, 629, 662, 695, 738, 801, 834, 877, 936, 959, 982, 1035, 1058, 1081], 131) := by decide +kernel
theorem dL_law_164 : decode cL_law 164 = .ok (.aload_n 1, 1) := by decide +kernel
theorem dL_law_165 : decode cL_law 165 = .ok (.aload_n 0, 1) := by decide +kernel
theorem dL_law_166 : decode cL_law 166 = .ok (.iload_n 3, 1) := by decide +kernel
theorem dL_law_167 : decode cL_law 167 = .ok (.iconst 1, 1) := by decide +kernel
theorem dL_law_168 : decode cL_law 168 = .ok (.iadd, 1) := by decide +kernel
theorem dL_law_169 : decode cL_law 169 = .ok (.iaload, 1) := by decide +kernel
theorem dL_law_170 : decode cL_law 170 = .ok (.aload_n 0, 1) := by decide +kernel
theorem dL_law_171 : decode cL_law 171 = .ok (.iload_n 3, 1) := by decide +kernel
theorem dL_law_172 : decode cL_law 172 = .ok (.iconst 2, 1) := by decide +kernel
theorem dL_law_173 : decode cL_law 173 = .ok (.iadd, 1) := by decide +kernel
theorem dL_law_174 : decode cL_law 174 = .ok (.iaload, 1) := by decide +kernel
theorem dL_law_175 : decode cL_law 175 = .ok (.aload_n 0, 1) := by decide +kernel
theorem dL_law_176 : decode cL_law 176 = .ok (.iload_n 3, 1) := by decide +kernel
theorem dL_law_177 : decode cL_law 177 = .ok (.iconst 3, 1) := by decide +kernel
theorem dL_law_178 : decode cL_law 178 = .ok (.iadd, 1) := by decide +kernel
theorem dL_law_179 : decode cL_law 179 = .ok (.iaload, 1) := by decide +kernel
theorem dL_law_180 : decode cL_law 180 = .ok (.aload_n 0, 1) := by decide +kernel
theorem dL_law_181 : decode cL_law 181 = .ok (.iload_n 3, 1) := by decide +kernel
theorem dL_law_182 : decode cL_law 182 = .ok (.iconst 4, 1) := by decide +kernel
theorem dL_law_183 : decode cL_law 183 = .ok (.iadd, 1) := by decide +kernel
theorem dL_law_184 : decode cL_law 184 = .ok (.iaload, 1) := by decide +kernel
theorem dL_law_185 : decode cL_law 185 = .ok (.aload_n 0, 1) := by decide +kernel
theorem dL_law_186 : decode cL_law 186 = .ok (.iload_n 3, 1) := by decide +kernel
theorem dL_law_187 : decode cL_law 187 = .ok (.iconst 5, 1) := by decide +kernel
theorem dL_law_188 : decode cL_law 188 = .ok (.iadd, 1) := by decide +kernel
theorem dL_law_189 : decode cL_law 189 = .ok (.iaload, 1) := by decide +kernel
theorem dL_law_190 : decode cL_law 190 = .ok (.invokevirtual 13, 3) := by decide +kernel
theorem dL_law_193 : decode cL_law 193 = .ok (.aload_n 2, 1) := by decide +kernel
theorem dL_law_194 : decode cL_law 194 = .ok (.aload_n 0, 1) := by decide +kernel
theorem dL_law_195 : decode cL_law 195 = .ok (.iload_n 3, 1) := by decide +kernel
theorem dL_law_196 : decode cL_law 196 = .ok (.iconst 1, 1) := by decide +kernel
theorem dL_law_197 : decode cL_law 197 = .ok (.iadd, 1) := by decide +kernel
theorem dL_law_198 : decode cL_law 198 = .ok (.iaload, 1) := by decide +kernel
theorem dL_law_199 : decode cL_law 199 = .ok (.aload_n 0, 1) := by decide +kernel
theorem dL_law_200 : decode cL_law 200 = .ok (.iload_n 3, 1) := by decide +kernel
theorem dL_law_201 : decode cL_law 201 = .ok (.iconst 2, 1) := by decide +kernel
theorem dL_law_202 : decode cL_law 202 = .ok (.iadd, 1) := by decide +kernel
theorem dL_law_203 : decode cL_law 203 = .ok (.iaload, 1) := by decide +kernel
theorem dL_law_204 : decode cL_law 204 = .ok (.aload_n 0, 1) := by decide +kernel
theorem dL_law_205 : decode cL_law 205 = .ok (.iload_n 3, 1) := by decide +kernel
theorem dL_law_206 : decode cL_law 206 = .ok (.iconst 3, 1) := by decide +kernel
theorem dL_law_207 : decode cL_law 207 = .ok (.iadd, 1) := by decide +kernel
theorem dL_law_208 : decode cL_law 208 = .ok (.iaload, 1) := by decide +kernel
theorem dL_law_209 : decode cL_law 209 = .ok (.aload_n 0, 1) := by decide +kernel
theorem dL_law_210 : decode cL_law 210 = .ok (.iload_n 3, 1) := by decide +kernel
theorem dL_law_211 : decode cL_law 211 = .ok (.iconst 4, 1) := by decide +kernel
theorem dL_law_212 : decode cL_law 212 = .ok (.iadd, 1) := by decide +kernel
theorem dL_law_213 : decode cL_law 213 = .ok (.iaload, 1) := by decide +kernel
theorem dL_law_214 : decode cL_law 214 = .ok (.aload_n 0, 1) := by decide +kernel
theorem dL_law_215 : decode cL_law 215 = .ok (.iload_n 3, 1) := by decide +kernel
theorem dL_law_216 : decode cL_law 216 = .ok (.iconst 5, 1) := by decide +kernel
theorem dL_law_217 : decode cL_law 217 = .ok (.iadd, 1) := by decide +kernel
theorem dL_law_218 : decode cL_law 218 = .ok (.iaload, 1) := by decide +kernel
theorem dL_law_219 : decode cL_law 219 = .ok (.invokevirtual 17, 3) := by decide +kernel
theorem dL_law_222 : decode cL_law 222 = .ok (.if_icmp .eq 915, 3) := by decide +kernel
theorem dL_law_227 : decode cL_law 227 = .ok (.aload_n 1, 1) := by decide +kernel
theorem dL_law_228 : decode cL_law 228 = .ok (.aload_n 0, 1) := by decide +kernel
theorem dL_law_229 : decode cL_law 229 = .ok (.iload_n 3, 1) := by decide +kernel
theorem dL_law_230 : decode cL_law 230 = .ok (.iconst 1, 1) := by decide +kernel
theorem dL_law_231 : decode cL_law 231 = .ok (.iadd, 1) := by decide +kernel
theorem dL_law_232 : decode cL_law 232 = .ok (.iaload, 1) := by decide +kernel
theorem dL_law_233 : decode cL_law 233 = .ok (.invokevirtual 18, 3) := by decide +kernel
theorem dL_law_236 : decode cL_law 236 = .ok (.aload_n 2, 1) := by decide +kernel
theorem dL_law_237 : decode cL_law 237 = .ok (.aload_n 0, 1) := by decide +kernel
theorem dL_law_238 : decode cL_law 238 = .ok (.iload_n 3, 1) := by decide +kernel
theorem dL_law_239 : decode cL_law 239 = .ok (.iconst 1, 1) := by decide +kernel
theorem dL_law_240 : decode cL_law 240 = .ok (.iadd, 1) := by decide +kernel
theorem dL_law_241 : decode cL_law 241 = .ok (.iaload, 1) := by decide +kernel
theorem dL_law_242 : decode cL_law 242 = .ok (.invokevirtual 22, 3) := by decide +kernel
theorem dL_law_245 : decode cL_law 245 = .ok (.if_icmp .eq 892, 3) := by decide +kernel
theorem dL_law_250 : decode cL_law 250 = .ok (.aload_n 1, 1) := by decide +kernel
theorem dL_law_251 : decode cL_law 251 = .ok (.invokevirtual 23, 3) := by decide +kernel
theorem dL_law_254 : decode cL_law 254 = .ok (.aload_n 2, 1) := by decide +kernel
theorem dL_law_255 : decode cL_law 255 = .ok (.invokevirtual 27, 3) := by decide +kernel
theorem dL_law_258 : decode cL_law 258 = .ok (.if_icmp .eq 879, 3) := by decide +kernel
theorem dL_law_263 : decode cL_law 263 = .ok (.aload_n 1, 1) := by decide +kernel
theorem dL_law_264 : decode cL_law 264 = .ok (.invokevirtual 28, 3) := by decide +kernel
theorem dL_law_267 : decode cL_law 267 = .ok (.aload_n 2, 1) := by decide +kernel
theorem dL_law_268 : decode cL_law 268 = .ok (.invokevirtual 31, 3) := by decide +kernel
theorem dL_law_271 : decode cL_law 271 = .ok (.if_icmp .eq 866, 3) := by decide +kernel
theorem dL_law_276 : decode cL_law 276 = .ok (.aload_n 1, 1) := by decide +kernel
theorem dL_law_277 : decode cL_law 277 = .ok (.aload_n 0, 1) := by decide +kernel
theorem dL_law_278 : decode cL_law 278 = .ok (.iload_n 3, 1) := by decide +kernel
theorem dL_law_279 : decode cL_law 279 = .ok (.iconst 1, 1) := by decide +kernel
theorem dL_law_280 : decode cL_law 280 = .ok (.iadd, 1) := by decide +kernel
theorem dL_law_281 : decode cL_law 281 = .ok (.iaload, 1) := by decide +kernel
theorem dL_law_282 : decode cL_law 282 = .ok (.aload_n 0, 1) := by decide +kernel
theorem dL_law_283 : decode cL_law 283 = .ok (.iload_n 3, 1) := by decide +kernel
theorem dL_law_284 : decode cL_law 284 = .ok (.iconst 2, 1) := by decide +kernel
theorem dL_law_285 : decode cL_law 285 = .ok (.iadd, 1) := by decide +kernel
theorem dL_law_286 : decode cL_law 286 = .ok (.iaload, 1) := by decide +kernel
theorem dL_law_287 : decode cL_law 287 = .ok (.invokevirtual 32, 3) := by decide +kernel
theorem dL_law_290 : decode cL_law 290 = .ok (.aload_n 2, 1) := by decide +kernel
theorem dL_law_291 : decode cL_law 291 = .ok (.aload_n 0, 1) := by decide +kernel
theorem dL_law_292 : decode cL_law 292 = .ok (.iload_n 3, 1) := by decide +kernel
theorem dL_law_293 : decode cL_law 293 = .ok (.iconst 1, 1) := by decide +kernel
theorem dL_law_294 : decode cL_law 294 = .ok (.iadd, 1) := by decide +kernel
theorem dL_law_295 : decode cL_law 295 = .ok (.iaload, 1) := by decide +kernel
theorem dL_law_296 : decode cL_law 296 = .ok (.aload_n 0, 1) := by decide +kernel
theorem dL_law_297 : decode cL_law 297 = .ok (.iload_n 3, 1) := by decide +kernel
theorem dL_law_298 : decode cL_law 298 = .ok (.iconst 2, 1) := by decide +kernel
theorem dL_law_299 : decode cL_law 299 = .ok (.iadd, 1) := by decide +kernel
theorem dL_law_300 : decode cL_law 300 = .ok (.iaload, 1) := by decide +kernel
theorem dL_law_301 : decode cL_law 301 = .ok (.invokevirtual 36, 3) := by decide +kernel
theorem dL_law_304 : decode cL_law 304 = .ok (.if_icmp .eq 833, 3) := by decide +kernel
theorem dL_law_309 : decode cL_law 309 = .ok (.aload_n 1, 1) := by decide +kernel
theorem dL_law_310 : decode cL_law 310 = .ok (.aload_n 0, 1) := by decide +kernel
theorem dL_law_311 : decode cL_law 311 = .ok (.iload_n 3, 1) := by decide +kernel
theorem dL_law_312 : decode cL_law 312 = .ok (.iconst 1, 1) := by decide +kernel
theorem dL_law_313 : decode cL_law 313 = .ok (.iadd, 1) := by decide +kernel
theorem dL_law_314 : decode cL_law 314 = .ok (.iaload, 1) := by decide +kernel
theorem dL_law_315 : decode cL_law 315 = .ok (.aload_n 0, 1) := by decide +kernel
theorem dL_law_316 : decode cL_law 316 = .ok (.iload_n 3, 1) := by decide +kernel
theorem dL_law_317 : decode cL_law 317 = .ok (.iconst 2, 1) := by decide +kernel
theorem dL_law_318 : decode cL_law 318 = .ok (.iadd, 1) := by decide +kernel
theorem dL_law_319 : decode cL_law 319 = .ok (.iaload, 1) := by decide +kernel
theorem dL_law_320 : decode cL_law 320 = .ok (.invokevirtual 37, 3) := by decide +kernel
theorem dL_law_323 : decode cL_law 323 = .ok (.aload_n 2, 1) := by decide +kernel
theorem dL_law_324 : decode cL_law 324 = .ok (.aload_n 0, 1) := by decide +kernel
theorem dL_law_325 : decode cL_law 325 = .ok (.iload_n 3, 1) := by decide +kernel
theorem dL_law_326 : decode cL_law 326 = .ok (.iconst 1, 1) := by decide +kernel
theorem dL_law_327 : decode cL_law 327 = .ok (.iadd, 1) := by decide +kernel
theorem dL_law_328 : decode cL_law 328 = .ok (.iaload, 1) := by decide +kernel
theorem dL_law_329 : decode cL_law 329 = .ok (.aload_n 0, 1) := by decide +kernel
theorem dL_law_330 : decode cL_law 330 = .ok (.iload_n 3, 1) := by decide +kernel
theorem dL_law_331 : decode cL_law 331 = .ok (.iconst 2, 1) := by decide +kernel
theorem dL_law_332 : decode cL_law 332 = .ok (.iadd, 1) := by decide +kernel
theorem dL_law_333 : decode cL_law 333 = .ok (.iaload, 1) := by decide +kernel
theorem dL_law_334 : decode cL_law 334 = .ok (.invokevirtual 40, 3) := by decide +kernel
theorem dL_law_337 : decode cL_law 337 = .ok (.if_icmp .eq 800, 3) := by decide +kernel
theorem dL_law_342 : decode cL_law 342 = .ok (.aload_n 1, 1) := by decide +kernel
theorem dL_law_343 : decode cL_law 343 = .ok (.aload_n 0, 1) := by decide +kernel
theorem dL_law_344 : decode cL_law 344 = .ok (.iload_n 3, 1) := by decide +kernel
theorem dL_law_345 : decode cL_law 345 = .ok (.iconst 1, 1) := by decide +kernel
theorem dL_law_346 : decode cL_law 346 = .ok (.iadd, 1) := by decide +kernel
theorem dL_law_347 : decode cL_law 347 = .ok (.iaload, 1) := by decide +kernel
theorem dL_law_348 : decode cL_law 348 = .ok (.aload_n 0, 1) := by decide +kernel
theorem dL_law_349 : decode cL_law 349 = .ok (.iload_n 3, 1) := by decide +kernel
theorem dL_law_350 : decode cL_law 350 = .ok (.iconst 2, 1) := by decide +kernel
theorem dL_law_351 : decode cL_law 351 = .ok (.iadd, 1) := by decide +kernel
theorem dL_law_352 : decode cL_law 352 = .ok (.iaload, 1) := by decide +kernel
theorem dL_law_353 : decode cL_law 353 = .ok (.invokevirtual 41, 3) := by decide +kernel
theorem dL_law_356 : decode cL_law 356 = .ok (.aload_n 2, 1) := by decide +kernel
theorem dL_law_357 : decode cL_law 357 = .ok (.aload_n 0, 1) := by decide +kernel
theorem dL_law_358 : decode cL_law 358 = .ok (.iload_n 3, 1) := by decide +kernel
theorem dL_law_359 : decode cL_law 359 = .ok (.iconst 1, 1) := by decide +kernel
theorem dL_law_360 : decode cL_law 360 = .ok (.iadd, 1) := by decide +kernel
theorem dL_law_361 : decode cL_law 361 = .ok (.iaload, 1) := by decide +kernel
theorem dL_law_362 : decode cL_law 362 = .ok (.aload_n 0, 1) := by decide +kernel
theorem dL_law_363 : decode cL_law 363 = .ok (.iload_n 3, 1) := by decide +kernel
theorem dL_law_364 : decode cL_law 364 = .ok (.iconst 2, 1) := by decide +kernel
theorem dL_law_365 : decode cL_law 365 = .ok (.iadd, 1) := by decide +kernel
theorem dL_law_366 : decode cL_law 366 = .ok (.iaload, 1) := by decide +kernel
theorem dL_law_367 : decode cL_law 367 = .ok (.invokevirtual 44, 3) := by decide +kernel
theorem dL_law_370 : decode cL_law 370 = .ok (.if_icmp .eq 767, 3) := by decide +kernel
theorem dL_law_375 : decode cL_law 375 = .ok (.aload_n 1, 1) := by decide +kernel
theorem dL_law_376 : decode cL_law 376 = .ok (.aload_n 0, 1) := by decide +kernel
theorem dL_law_377 : decode cL_law 377 = .ok (.iload_n 3, 1) := by decide +kernel
theorem dL_law_378 : decode cL_law 378 = .ok (.iconst 1, 1) := by decide +kernel
theorem dL_law_379 : decode cL_law 379 = .ok (.iadd, 1) := by decide +kernel
theorem dL_law_380 : decode cL_law 380 = .ok (.iaload, 1) := by decide +kernel
theorem dL_law_381 : decode cL_law 381 = .ok (.aload_n 0, 1) := by decide +kernel
theorem dL_law_382 : decode cL_law 382 = .ok (.iload_n 3, 1) := by decide +kernel
theorem dL_law_383 : decode cL_law 383 = .ok (.iconst 2, 1) := by decide +kernel
theorem dL_law_384 : decode cL_law 384 = .ok (.iadd, 1) := by decide +kernel
theorem dL_law_385 : decode cL_law 385 = .ok (.iaload, 1) := by decide +kernel
theorem dL_law_386 : decode cL_law 386 = .ok (.invokevirtual 45, 3) := by decide +kernel
theorem dL_law_389 : decode cL_law 389 = .ok (.aload_n 2, 1) := by decide +kernel
theorem dL_law_390 : decode cL_law 390 = .ok (.aload_n 0, 1) := by decide +kernel
theorem dL_law_391 : decode cL_law 391 = .ok (.iload_n 3, 1) := by decide +kernel
theorem dL_law_392 : decode cL_law 392 = .ok (.iconst 1, 1) := by decide +kernel
theorem dL_law_393 : decode cL_law 393 = .ok (.iadd, 1) := by decide +kernel
theorem dL_law_394 : decode cL_law 394 = .ok (.iaload, 1) := by decide +kernel
theorem dL_law_395 : decode cL_law 395 = .ok (.aload_n 0, 1) := by decide +kernel
theorem dL_law_396 : decode cL_law 396 = .ok (.iload_n 3, 1) := by decide +kernel
theorem dL_law_397 : decode cL_law 397 = .ok (.iconst 2, 1) := by decide +kernel
theorem dL_law_398 : decode cL_law 398 = .ok (.iadd, 1) := by decide +kernel
theorem dL_law_399 : decode cL_law 399 = .ok (.iaload, 1) := by decide +kernel
theorem dL_law_400 : decode cL_law 400 = .ok (.invokevirtual 48, 3) := by decide +kernel
theorem dL_law_403 : decode cL_law 403 = .ok (.if_icmp .eq 734, 3) := by decide +kernel
theorem dL_law_408 : decode cL_law 408 = .ok (.aload_n 1, 1) := by decide +kernel
theorem dL_law_409 : decode cL_law 409 = .ok (.aload_n 0, 1) := by decide +kernel
theorem dL_law_410 : decode cL_law 410 = .ok (.iload_n 3, 1) := by decide +kernel
theorem dL_law_411 : decode cL_law 411 = .ok (.iconst 1, 1) := by decide +kernel
theorem dL_law_412 : decode cL_law 412 = .ok (.iadd, 1) := by decide +kernel
theorem dL_law_413 : decode cL_law 413 = .ok (.iaload, 1) := by decide +kernel
theorem dL_law_414 : decode cL_law 414 = .ok (.aload_n 0, 1) := by decide +kernel
theorem dL_law_415 : decode cL_law 415 = .ok (.iload_n 3, 1) := by decide +kernel
theorem dL_law_416 : decode cL_law 416 = .ok (.iconst 2, 1) := by decide +kernel
theorem dL_law_417 : decode cL_law 417 = .ok (.iadd, 1) := by decide +kernel
theorem dL_law_418 : decode cL_law 418 = .ok (.iaload, 1) := by decide +kernel
theorem dL_law_419 : decode cL_law 419 = .ok (.invokevirtual 49, 3) := by decide +kernel
theorem dL_law_422 : decode cL_law 422 = .ok (.aload_n 2, 1) := by decide +kernel
theorem dL_law_423 : decode cL_law 423 = .ok (.aload_n 0, 1) := by decide +kernel
theorem dL_law_424 : decode cL_law 424 = .ok (.iload_n 3, 1) := by decide +kernel
theorem dL_law_425 : decode cL_law 425 = .ok (.iconst 1, 1) := by decide +kernel
theorem dL_law_426 : decode cL_law 426 = .ok (.iadd, 1) := by decide +kernel
theorem dL_law_427 : decode cL_law 427 = .ok (.iaload, 1) := by decide +kernel
theorem dL_law_428 : decode cL_law 428 = .ok (.aload_n 0, 1) := by decide +kernel
theorem dL_law_429 : decode cL_law 429 = .ok (.iload_n 3, 1) := by decide +kernel
theorem dL_law_430 : decode cL_law 430 = .ok (.iconst 2, 1) := by decide +kernel
theorem dL_law_431 : decode cL_law 431 = .ok (.iadd, 1) := by decide +kernel
theorem dL_law_432 : decode cL_law 432 = .ok (.iaload, 1) := by decide +kernel
theorem dL_law_433 : decode cL_law 433 = .ok (.invokevirtual 52, 3) := by decide +kernel
theorem dL_law_436 : decode cL_law 436 = .ok (.if_icmp .eq 701, 3) := by decide +kernel
theorem dL_law_441 : decode cL_law 441 = .ok (.aload_n 1, 1) := by decide +kernel
theorem dL_law_442 : decode cL_law 442 = .ok (.aload_n 0, 1) := by decide +kernel
theorem dL_law_443 : decode cL_law 443 = .ok (.iload_n 3, 1) := by decide +kernel
theorem dL_law_444 : decode cL_law 444 = .ok (.iconst 1, 1) := by decide +kernel
theorem dL_law_445 : decode cL_law 445 = .ok (.iadd, 1) := by decide +kernel
theorem dL_law_446 : decode cL_law 446 = .ok (.iaload, 1) := by decide +kernel
theorem dL_law_447 : decode cL_law 447 = .ok (.aload_n 0, 1) := by decide +kernel
theorem dL_law_448 : decode cL_law 448 = .ok (.iload_n 3, 1) := by decide +kernel
theorem dL_law_449 : decode cL_law 449 = .ok (.iconst 2, 1) := by decide +kernel
theorem dL_law_450 : decode cL_law 450 = .ok (.iadd, 1) := by decide +kernel
theorem dL_law_451 : decode cL_law 451 = .ok (.iaload, 1) := by decide +kernel
theorem dL_law_452 : decode cL_law 452 = .ok (.invokevirtual 53, 3) := by decide +kernel
theorem dL_law_455 : decode cL_law 455 = .ok (.aload_n 2, 1) := by decide +kernel
theorem dL_law_456 : decode cL_law 456 = .ok (.aload_n 0, 1) := by decide +kernel
theorem dL_law_457 : decode cL_law 457 = .ok (.iload_n 3, 1) := by decide +kernel
theorem dL_law_458 : decode cL_law 458 = .ok (.iconst 1, 1) := by decide +kernel
theorem dL_law_459 : decode cL_law 459 = .ok (.iadd, 1) := by decide +kernel
theorem dL_law_460 : decode cL_law 460 = .ok (.iaload, 1) := by decide +kernel
theorem dL_law_461 : decode cL_law 461 = .ok (.aload_n 0, 1) := by decide +kernel
theorem dL_law_462 : decode cL_law 462 = .ok (.iload_n 3, 1) := by decide +kernel
theorem dL_law_463 : decode cL_law 463 = .ok (.iconst 2, 1) := by decide +kernel
theorem dL_law_464 : decode cL_law 464 = .ok (.iadd, 1) := by decide +kernel
theorem dL_law_465 : decode cL_law 465 = .ok (.iaload, 1) := by decide +kernel
theorem dL_law_466 : decode cL_law 466 = .ok (.invokevirtual 56, 3) := by decide +kernel
theorem dL_law_469 : decode cL_law 469 = .ok (.if_icmp .eq 668, 3) := by decide +kernel
theorem dL_law_474 : decode cL_law 474 = .ok (.aload_n 1, 1) := by decide +kernel
theorem dL_law_475 : decode cL_law 475 = .ok (.aload_n 0, 1) := by decide +kernel
theorem dL_law_476 : decode cL_law 476 = .ok (.iload_n 3, 1) := by decide +kernel
theorem dL_law_477 : decode cL_law 477 = .ok (.iconst 1, 1) := by decide +kernel
theorem dL_law_478 : decode cL_law 478 = .ok (.iadd, 1) := by decide +kernel
theorem dL_law_479 : decode cL_law 479 = .ok (.iaload, 1) := by decide +kernel
theorem dL_law_480 : decode cL_law 480 = .ok (.aload_n 0, 1) := by decide +kernel
theorem dL_law_481 : decode cL_law 481 = .ok (.iload_n 3, 1) := by decide +kernel
theorem dL_law_482 : decode cL_law 482 = .ok (.iconst 2, 1) := by decide +kernel
theorem dL_law_483 : decode cL_law 483 = .ok (.iadd, 1) := by decide +kernel
theorem dL_law_484 : decode cL_law 484 = .ok (.iaload, 1) := by decide +kernel
theorem dL_law_485 : decode cL_law 485 = .ok (.invokevirtual 57, 3) := by decide +kernel
theorem dL_law_488 : decode cL_law 488 = .ok (.aload_n 2, 1) := by decide +kernel
theorem dL_law_489 : decode cL_law 489 = .ok (.aload_n 0, 1) := by decide +kernel
theorem dL_law_490 : decode cL_law 490 = .ok (.iload_n 3, 1) := by decide +kernel
theorem dL_law_491 : decode cL_law 491 = .ok (.iconst 1, 1) := by decide +kernel
theorem dL_law_492 : decode cL_law 492 = .ok (.iadd, 1) := by decide +kernel
theorem dL_law_493 : decode cL_law 493 = .ok (.iaload, 1) := by decide +kernel
theorem dL_law_494 : decode cL_law 494 = .ok (.aload_n 0, 1) := by decide +kernel
theorem dL_law_495 : decode cL_law 495 = .ok (.iload_n 3, 1) := by decide +kernel
theorem dL_law_496 : decode cL_law 496 = .ok (.iconst 2, 1) := by decide +kernel
theorem dL_law_497 : decode cL_law 497 = .ok (.iadd, 1) := by decide +kernel
theorem dL_law_498 : decode cL_law 498 = .ok (.iaload, 1) := by decide +kernel
theorem dL_law_499 : decode cL_law 499 = .ok (.invokevirtual 60, 3) := by decide +kernel
theorem dL_law_502 : decode cL_law 502 = .ok (.if_icmp .eq 635, 3) := by decide +kernel
theorem dL_law_507 : decode cL_law 507 = .ok (.aload_n 1, 1) := by decide +kernel
theorem dL_law_508 : decode cL_law 508 = .ok (.aload_n 0, 1) := by decide +kernel
theorem dL_law_509 : decode cL_law 509 = .ok (.iload_n 3, 1) := by decide +kernel
theorem dL_law_510 : decode cL_law 510 = .ok (.iconst 1, 1) := by decide +kernel
theorem dL_law_511 : decode cL_law 511 = .ok (.iadd, 1) := by decide +kernel
theorem dL_law_512 : decode cL_law 512 = .ok (.iaload, 1) := by decide +kernel
theorem dL_law_513 : decode cL_law 513 = .ok (.aload_n 0, 1) := by decide +kernel
theorem dL_law_514 : decode cL_law 514 = .ok (.iload_n 3, 1) := by decide +kernel
theorem dL_law_515 : decode cL_law 515 = .ok (.iconst 2, 1) := by decide +kernel
theorem dL_law_516 : decode cL_law 516 = .ok (.iadd, 1) := by decide +kernel
theorem dL_law_517 : decode cL_law 517 = .ok (.iaload, 1) := by decide +kernel
theorem dL_law_518 : decode cL_law 518 = .ok (.aload_n 0, 1) := by decide +kernel
theorem dL_law_519 : decode cL_law 519 = .ok (.iload_n 3, 1) := by decide +kernel
theorem dL_law_520 : decode cL_law 520 = .ok (.iconst 3, 1) := by decide +kernel
theorem dL_law_521 : decode cL_law 521 = .ok (.iadd, 1) := by decide +kernel
theorem dL_law_522 : decode cL_law 522 = .ok (.iaload, 1) := by decide +kernel
theorem dL_law_523 : decode cL_law 523 = .ok (.aload_n 0, 1) := by decide +kernel
theorem dL_law_524 : decode cL_law 524 = .ok (.iload_n 3, 1) := by decide +kernel
theorem dL_law_525 : decode cL_law 525 = .ok (.iconst 4, 1) := by decide +kernel
theorem dL_law_526 : decode cL_law 526 = .ok (.iadd, 1) := by decide +kernel
theorem dL_law_527 : decode cL_law 527 = .ok (.iaload, 1) := by decide +kernel
theorem dL_law_528 : decode cL_law 528 = .ok (.invokevirtual 61, 3) := by decide +kernel
theorem dL_law_531 : decode cL_law 531 = .ok (.aload_n 2, 1) := by decide +kernel
theorem dL_law_532 : decode cL_law 532 = .ok (.aload_n 0, 1) := by decide +kernel
theorem dL_law_533 : decode cL_law 533 = .ok (.iload_n 3, 1) := by decide +kernel
theorem dL_law_534 : decode cL_law 534 = .ok (.iconst 1, 1) := by decide +kernel
theorem dL_law_535 : decode cL_law 535 = .ok (.iadd, 1) := by decide +kernel
theorem dL_law_536 : decode cL_law 536 = .ok (.iaload, 1) := by decide +kernel
theorem dL_law_537 : decode cL_law 537 = .ok (.aload_n 0, 1) := by decide +kernel
theorem dL_law_538 : decode cL_law 538 = .ok (.iload_n 3, 1) := by decide +kernel
theorem dL_law_539 : decode cL_law 539 = .ok (.iconst 2, 1) := by decide +kernel
theorem dL_law_540 : decode cL_law 540 = .ok (.iadd, 1) := by decide +kernel
theorem dL_law_541 : decode cL_law 541 = .ok (.iaload, 1) := by decide +kernel
theorem dL_law_542 : decode cL_law 542 = .ok (.aload_n 0, 1) := by decide +kernel
theorem dL_law_543 : decode cL_law 543 = .ok (.iload_n 3, 1) := by decide +kernel
theorem dL_law_544 : decode cL_law 544 = .ok (.iconst 3, 1) := by decide +kernel
theorem dL_law_545 : decode cL_law 545 = .ok (.iadd, 1) := by decide +kernel
theorem dL_law_546 : decode cL_law 546 = .ok (.iaload, 1) := by decide +kernel
theorem dL_law_547 : decode cL_law 547 = .ok (.aload_n 0, 1) := by decide +kernel
theorem dL_law_548 : decode cL_law 548 = .ok (.iload_n 3, 1) := by decide +kernel
theorem dL_law_549 : decode cL_law 549 = .ok (.iconst 4, 1) := by decide +kernel
theorem dL_law_550 : decode cL_law 550 = .ok (.iadd, 1) := by decide +kernel
theorem dL_law_551 : decode cL_law 551 = .ok (.iaload, 1) := by decide +kernel
theorem dL_law_552 : decode cL_law 552 = .ok (.invokevirtual 65, 3) := by decide +kernel
theorem dL_law_555 : decode cL_law 555 = .ok (.if_icmp .eq 582, 3) := by decide +kernel
theorem dL_law_560 : decode cL_law 560 = .ok (.aload_n 1, 1) := by decide +kernel
theorem dL_law_561 : decode cL_law 561 = .ok (.aload_n 0, 1) := by decide +kernel
theorem dL_law_562 : decode cL_law 562 = .ok (.iload_n 3, 1) := by decide +kernel
theorem dL_law_563 : decode cL_law 563 = .ok (.iconst 1, 1) := by decide +kernel
theorem dL_law_564 : decode cL_law 564 = .ok (.iadd, 1) := by decide +kernel
theorem dL_law_565 : decode cL_law 565 = .ok (.iaload, 1) := by decide +kernel
theorem dL_law_566 : decode cL_law 566 = .ok (.aload_n 0, 1) := by decide +kernel
theorem dL_law_567 : decode cL_law 567 = .ok (.iload_n 3, 1) := by decide +kernel
theorem dL_law_568 : decode cL_law 568 = .ok (.iconst 2, 1) := by decide +kernel
theorem dL_law_569 : decode cL_law 569 = .ok (.iadd, 1) := by decide +kernel
theorem dL_law_570 : decode cL_law 570 = .ok (.iaload, 1) := by decide +kernel
theorem dL_law_571 : decode cL_law 571 = .ok (.invokevirtual 66, 3) := by decide +kernel
theorem dL_law_574 : decode cL_law 574 = .ok (.aload_n 2, 1) := by decide +kernel
theorem dL_law_575 : decode cL_law 575 = .ok (.aload_n 0, 1) := by decide +kernel
theorem dL_law_576 : decode cL_law 576 = .ok (.iload_n 3, 1) := by decide +kernel
theorem dL_law_577 : decode cL_law 577 = .ok (.iconst 1, 1) := by decide +kernel
theorem dL_law_578 : decode cL_law 578 = .ok (.iadd, 1) := by decide +kernel
theorem dL_law_579 : decode cL_law 579 = .ok (.iaload, 1) := by decide +kernel
theorem dL_law_580 : decode cL_law 580 = .ok (.aload_n 0, 1) := by decide +kernel
theorem dL_law_581 : decode cL_law 581 = .ok (.iload_n 3, 1) := by decide +kernel
theorem dL_law_582 : decode cL_law 582 = .ok (.iconst 2, 1) := by decide +kernel
theorem dL_law_583 : decode cL_law 583 = .ok (.iadd, 1) := by decide +kernel
theorem dL_law_584 : decode cL_law 584 = .ok (.iaload, 1) := by decide +kernel
theorem dL_law_585 : decode cL_law 585 = .ok (.invokevirtual 69, 3) := by decide +kernel
theorem dL_law_588 : decode cL_law 588 = .ok (.if_icmp .eq 549, 3) := by decide +kernel
theorem dL_law_593 : decode cL_law 593 = .ok (.aload_n 1, 1) := by decide +kernel
theorem dL_law_594 : decode cL_law 594 = .ok (.invokevirtual 70, 3) := by decide +kernel
theorem dL_law_597 : decode cL_law 597 = .ok (.aload_n 2, 1) := by decide +kernel
theorem dL_law_598 : decode cL_law 598 = .ok (.invokevirtual 73, 3) := by decide +kernel
theorem dL_law_601 : decode cL_law 601 = .ok (.if_icmp .eq 536, 3) := by decide +kernel
theorem dL_law_606 : decode cL_law 606 = .ok (.aload_n 1, 1) := by decide +kernel
theorem dL_law_607 : decode cL_law 607 = .ok (.aload_n 0, 1) := by decide +kernel
theorem dL_law_608 : decode cL_law 608 = .ok (.iload_n 3, 1) := by decide +kernel
theorem dL_law_609 : decode cL_law 609 = .ok (.iconst 1, 1) := by decide +kernel
theorem dL_law_610 : decode cL_law 610 = .ok (.iadd, 1) := by decide +kernel
theorem dL_law_611 : decode cL_law 611 = .ok (.iaload, 1) := by decide +kernel
theorem dL_law_612 : decode cL_law 612 = .ok (.aload_n 0, 1) := by decide +kernel
theorem dL_law_613 : decode cL_law 613 = .ok (.iload_n 3, 1) := by decide +kernel
theorem dL_law_614 : decode cL_law 614 = .ok (.iconst 2, 1) := by decide +kernel
theorem dL_law_615 : decode cL_law 615 = .ok (.iadd, 1) := by decide +kernel
theorem dL_law_616 : decode cL_law 616 = .ok (.iaload, 1) := by decide +kernel
theorem dL_law_617 : decode cL_law 617 = .ok (.invokevirtual 74, 3) := by decide +kernel
theorem dL_law_620 : decode cL_law 620 = .ok (.aload_n 2, 1) := by decide +kernel
theorem dL_law_621 : decode cL_law 621 = .ok (.aload_n 0, 1) := by decide +kernel
theorem dL_law_622 : decode cL_law 622 = .ok (.iload_n 3, 1) := by decide +kernel
theorem dL_law_623 : decode cL_law 623 = .ok (.iconst 1, 1) := by decide +kernel
theorem dL_law_624 : decode cL_law 624 = .ok (.iadd, 1) := by decide +kernel
theorem dL_law_625 : decode cL_law 625 = .ok (.iaload, 1) := by decide +kernel
theorem dL_law_626 : decode cL_law 626 = .ok (.aload_n 0, 1) := by decide +kernel
theorem dL_law_627 : decode cL_law 627 = .ok (.iload_n 3, 1) := by decide +kernel
theorem dL_law_628 : decode cL_law 628 = .ok (.iconst 2, 1) := by decide +kernel
theorem dL_law_629 : decode cL_law 629 = .ok (.iadd, 1) := by decide +kernel
theorem dL_law_630 : decode cL_law 630 = .ok (.iaload, 1) := by decide +kernel
theorem dL_law_631 : decode cL_law 631 = .ok (.invokevirtual 77, 3) := by decide +kernel
theorem dL_law_634 : decode cL_law 634 = .ok (.if_icmp .eq 503, 3) := by decide +kernel
theorem dL_law_639 : decode cL_law 639 = .ok (.aload_n 1, 1) := by decide +kernel
theorem dL_law_640 : decode cL_law 640 = .ok (.aload_n 0, 1) := by decide +kernel
theorem dL_law_641 : decode cL_law 641 = .ok (.iload_n 3, 1) := by decide +kernel
theorem dL_law_642 : decode cL_law 642 = .ok (.iconst 1, 1) := by decide +kernel
theorem dL_law_643 : decode cL_law 643 = .ok (.iadd, 1) := by decide +kernel
theorem dL_law_644 : decode cL_law 644 = .ok (.iaload, 1) := by decide +kernel
theorem dL_law_645 : decode cL_law 645 = .ok (.invokevirtual 78, 3) := by decide +kernel
theorem dL_law_648 : decode cL_law 648 = .ok (.aload_n 2, 1) := by decide +kernel
theorem dL_law_649 : decode cL_law 649 = .ok (.aload_n 0, 1) := by decide +kernel
theorem dL_law_650 : decode cL_law 650 = .ok (.iload_n 3, 1) := by decide +kernel
theorem dL_law_651 : decode cL_law 651 = .ok (.iconst 1, 1) := by decide +kernel
theorem dL_law_652 : decode cL_law 652 = .ok (.iadd, 1) := by decide +kernel
theorem dL_law_653 : decode cL_law 653 = .ok (.iaload, 1) := by decide +kernel
theorem dL_law_654 : decode cL_law 654 = .ok (.invokevirtual 81, 3) := by decide +kernel
theorem dL_law_657 : decode cL_law 657 = .ok (.if_icmp .eq 480, 3) := by decide +kernel
theorem dL_law_662 : decode cL_law 662 = .ok (.aload_n 1, 1) := by decide +kernel
theorem dL_law_663 : decode cL_law 663 = .ok (.aload_n 0, 1) := by decide +kernel
theorem dL_law_664 : decode cL_law 664 = .ok (.iload_n 3, 1) := by decide +kernel
theorem dL_law_665 : decode cL_law 665 = .ok (.iconst 1, 1) := by decide +kernel
theorem dL_law_666 : decode cL_law 666 = .ok (.iadd, 1) := by decide +kernel
theorem dL_law_667 : decode cL_law 667 = .ok (.iaload, 1) := by decide +kernel
theorem dL_law_668 : decode cL_law 668 = .ok (.aload_n 0, 1) := by decide +kernel
theorem dL_law_669 : decode cL_law 669 = .ok (.iload_n 3, 1) := by decide +kernel
theorem dL_law_670 : decode cL_law 670 = .ok (.iconst 2, 1) := by decide +kernel
theorem dL_law_671 : decode cL_law 671 = .ok (.iadd, 1) := by decide +kernel
theorem dL_law_672 : decode cL_law 672 = .ok (.iaload, 1) := by decide +kernel
theorem dL_law_673 : decode cL_law 673 = .ok (.invokevirtual 82, 3) := by decide +kernel
theorem dL_law_676 : decode cL_law 676 = .ok (.aload_n 2, 1) := by decide +kernel
theorem dL_law_677 : decode cL_law 677 = .ok (.aload_n 0, 1) := by decide +kernel
theorem dL_law_678 : decode cL_law 678 = .ok (.iload_n 3, 1) := by decide +kernel
theorem dL_law_679 : decode cL_law 679 = .ok (.iconst 1, 1) := by decide +kernel
theorem dL_law_680 : decode cL_law 680 = .ok (.iadd, 1) := by decide +kernel
theorem dL_law_681 : decode cL_law 681 = .ok (.iaload, 1) := by decide +kernel
theorem dL_law_682 : decode cL_law 682 = .ok (.aload_n 0, 1) := by decide +kernel
theorem dL_law_683 : decode cL_law 683 = .ok (.iload_n 3, 1) := by decide +kernel
theorem dL_law_684 : decode cL_law 684 = .ok (.iconst 2, 1) := by decide +kernel
theorem dL_law_685 : decode cL_law 685 = .ok (.iadd, 1) := by decide +kernel
theorem dL_law_686 : decode cL_law 686 = .ok (.iaload, 1) := by decide +kernel
theorem dL_law_687 : decode cL_law 687 = .ok (.invokevirtual 85, 3) := by decide +kernel
theorem dL_law_690 : decode cL_law 690 = .ok (.if_icmp .eq 447, 3) := by decide +kernel
theorem dL_law_695 : decode cL_law 695 = .ok (.aload_n 1, 1) := by decide +kernel
theorem dL_law_696 : decode cL_law 696 = .ok (.aload_n 0, 1) := by decide +kernel
theorem dL_law_697 : decode cL_law 697 = .ok (.iload_n 3, 1) := by decide +kernel
theorem dL_law_698 : decode cL_law 698 = .ok (.iconst 1, 1) := by decide +kernel
theorem dL_law_699 : decode cL_law 699 = .ok (.iadd, 1) := by decide +kernel
theorem dL_law_700 : decode cL_law 700 = .ok (.iaload, 1) := by decide +kernel
theorem dL_law_701 : decode cL_law 701 = .ok (.aload_n 0, 1) := by decide +kernel
theorem dL_law_702 : decode cL_law 702 = .ok (.iload_n 3, 1) := by decide +kernel
theorem dL_law_703 : decode cL_law 703 = .ok (.iconst 2, 1) := by decide +kernel
theorem dL_law_704 : decode cL_law 704 = .ok (.iadd, 1) := by decide +kernel
theorem dL_law_705 : decode cL_law 705 = .ok (.iaload, 1) := by decide +kernel
theorem dL_law_706 : decode cL_law 706 = .ok (.invokevirtual 86, 3) := by decide +kernel
theorem dL_law_709 : decode cL_law 709 = .ok (.aload_n 2, 1) := by decide +kernel
theorem dL_law_710 : decode cL_law 710 = .ok (.aload_n 0, 1) := by decide +kernel
theorem dL_law_711 : decode cL_law 711 = .ok (.iload_n 3, 1) := by decide +kernel
theorem dL_law_712 : decode cL_law 712 = .ok (.iconst 1, 1) := by decide +kernel
theorem dL_law_713 : decode cL_law 713 = .ok (.iadd, 1) := by decide +kernel
theorem dL_law_714 : decode cL_law 714 = .ok (.iaload, 1) := by decide +kernel
theorem dL_law_715 : decode cL_law 715 = .ok (.aload_n 0, 1) := by decide +kernel
theorem dL_law_716 : decode cL_law 716 = .ok (.iload_n 3, 1) := by decide +kernel
theorem dL_law_717 : decode cL_law 717 = .ok (.iconst 2, 1) := by decide +kernel
theorem dL_law_718 : decode cL_law 718 = .ok (.iadd, 1) := by decide +kernel
theorem dL_law_719 : decode cL_law 719 = .ok (.iaload, 1) := by decide +kernel
theorem dL_law_720 : decode cL_law 720 = .ok (.invokevirtual 89, 3) := by decide +kernel
theorem dL_law_723 : decode cL_law 723 = .ok (.if_icmp .eq 414, 3) := by decide +kernel
theorem dL_law_728 : decode cL_law 728 = .ok (.aload_n 1, 1) := by decide +kernel
theorem dL_law_729 : decode cL_law 729 = .ok (.aload_n 0, 1) := by decide +kernel
theorem dL_law_730 : decode cL_law 730 = .ok (.iload_n 3, 1) := by decide +kernel
theorem dL_law_731 : decode cL_law 731 = .ok (.iconst 1, 1) := by decide +kernel
theorem dL_law_732 : decode cL_law 732 = .ok (.iadd, 1) := by decide +kernel
theorem dL_law_733 : decode cL_law 733 = .ok (.iaload, 1) := by decide +kernel
theorem dL_law_734 : decode cL_law 734 = .ok (.aload_n 0, 1) := by decide +kernel
theorem dL_law_735 : decode cL_law 735 = .ok (.iload_n 3, 1) := by decide +kernel
theorem dL_law_736 : decode cL_law 736 = .ok (.iconst 2, 1) := by decide +kernel
theorem dL_law_737 : decode cL_law 737 = .ok (.iadd, 1) := by decide +kernel
theorem dL_law_738 : decode cL_law 738 = .ok (.iaload, 1) := by decide +kernel
theorem dL_law_739 : decode cL_law 739 = .ok (.aload_n 0, 1) := by decide +kernel
theorem dL_law_740 : decode cL_law 740 = .ok (.iload_n 3, 1) := by decide +kernel
theorem dL_law_741 : decode cL_law 741 = .ok (.iconst 3, 1) := by decide +kernel
theorem dL_law_742 : decode cL_law 742 = .ok (.iadd, 1) := by decide +kernel
theorem dL_law_743 : decode cL_law 743 = .ok (.iaload, 1) := by decide +kernel
theorem dL_law_744 : decode cL_law 744 = .ok (.invokevirtual 90, 3) := by decide +kernel
theorem dL_law_747 : decode cL_law 747 = .ok (.aload_n 2, 1) := by decide +kernel
theorem dL_law_748 : decode cL_law 748 = .ok (.aload_n 0, 1) := by decide +kernel
theorem dL_law_749 : decode cL_law 749 = .ok (.iload_n 3, 1) := by decide +kernel
theorem dL_law_750 : decode cL_law 750 = .ok (.iconst 1, 1) := by decide +kernel
theorem dL_law_751 : decode cL_law 751 = .ok (.iadd, 1) := by decide +kernel
theorem dL_law_752 : decode cL_law 752 = .ok (.iaload, 1) := by decide +kernel
theorem dL_law_753 : decode cL_law 753 = .ok (.aload_n 0, 1) := by decide +kernel
theorem dL_law_754 : decode cL_law 754 = .ok (.iload_n 3, 1) := by decide +kernel
theorem dL_law_755 : decode cL_law 755 = .ok (.iconst 2, 1) := by decide +kernel
theorem dL_law_756 : decode cL_law 756 = .ok (.iadd, 1) := by decide +kernel
theorem dL_law_757 : decode cL_law 757 = .ok (.iaload, 1) := by decide +kernel
theorem dL_law_758 : decode cL_law 758 = .ok (.aload_n 0, 1) := by decide +kernel
theorem dL_law_759 : decode cL_law 759 = .ok (.iload_n 3, 1) := by decide +kernel
theorem dL_law_760 : decode cL_law 760 = .ok (.iconst 3, 1) := by decide +kernel
theorem dL_law_761 : decode cL_law 761 = .ok (.iadd, 1) := by decide +kernel
theorem dL_law_762 : decode cL_law 762 = .ok (.iaload, 1) := by decide +kernel
theorem dL_law_763 : decode cL_law 763 = .ok (.invokevirtual 94, 3) := by decide +kernel
theorem dL_law_766 : decode cL_law 766 = .ok (.if_icmp .eq 371, 3) := by decide +kernel
theorem dL_law_771 : decode cL_law 771 = .ok (.aload_n 1, 1) := by decide +kernel
theorem dL_law_772 : decode cL_law 772 = .ok (.aload_n 0, 1) := by decide +kernel
theorem dL_law_773 : decode cL_law 773 = .ok (.iload_n 3, 1) := by decide +kernel
theorem dL_law_774 : decode cL_law 774 = .ok (.iconst 1, 1) := by decide +kernel
theorem dL_law_775 : decode cL_law 775 = .ok (.iadd, 1) := by decide +kernel
theorem dL_law_776 : decode cL_law 776 = .ok (.iaload, 1) := by decide +kernel
theorem dL_law_777 : decode cL_law 777 = .ok (.aload_n 0, 1) := by decide +kernel
theorem dL_law_778 : decode cL_law 778 = .ok (.iload_n 3, 1) := by decide +kernel
theorem dL_law_779 : decode cL_law 779 = .ok (.iconst 2, 1) := by decide +kernel
theorem dL_law_780 : decode cL_law 780 = .ok (.iadd, 1) := by decide +kernel
theorem dL_law_781 : decode cL_law 781 = .ok (.iaload, 1) := by decide +kernel
theorem dL_law_782 : decode cL_law 782 = .ok (.aload_n 0, 1) := by decide +kernel
theorem dL_law_783 : decode cL_law 783 = .ok (.iload_n 3, 1) := by decide +kernel
theorem dL_law_784 : decode cL_law 784 = .ok (.iconst 3, 1) := by decide +kernel
theorem dL_law_785 : decode cL_law 785 = .ok (.iadd, 1) := by decide +kernel
theorem dL_law_786 : decode cL_law 786 = .ok (.iaload, 1) := by decide +kernel
theorem dL_law_787 : decode cL_law 787 = .ok (.aload_n 0, 1) := by decide +kernel
theorem dL_law_788 : decode cL_law 788 = .ok (.iload_n 3, 1) := by decide +kernel
theorem dL_law_789 : decode cL_law 789 = .ok (.iconst 4, 1) := by decide +kernel
theorem dL_law_790 : decode cL_law 790 = .ok (.iadd, 1) := by decide +kernel
theorem dL_law_791 : decode cL_law 791 = .ok (.iaload, 1) := by decide +kernel
theorem dL_law_792 : decode cL_law 792 = .ok (.aload_n 0, 1) := by decide +kernel
theorem dL_law_793 : decode cL_law 793 = .ok (.iload_n 3, 1) := by decide +kernel
theorem dL_law_794 : decode cL_law 794 = .ok (.iconst 5, 1) := by decide +kernel
theorem dL_law_795 : decode cL_law 795 = .ok (.iadd, 1) := by decide +kernel
theorem dL_law_796 : decode cL_law 796 = .ok (.iaload, 1) := by decide +kernel
theorem dL_law_797 : decode cL_law 797 = .ok (.invokevirtual 95, 3) := by decide +kernel
theorem dL_law_800 : decode cL_law 800 = .ok (.aload_n 2, 1) := by decide +kernel
theorem dL_law_801 : decode cL_law 801 = .ok (.aload_n 0, 1) := by decide +kernel
theorem dL_law_802 : decode cL_law 802 = .ok (.iload_n 3, 1) := by decide +kernel
theorem dL_law_803 : decode cL_law 803 = .ok (.iconst 1, 1) := by decide +kernel
theorem dL_law_804 : decode cL_law 804 = .ok (.iadd, 1) := by decide +kernel
theorem dL_law_805 : decode cL_law 805 = .ok (.iaload, 1) := by decide +kernel
theorem dL_law_806 : decode cL_law 806 = .ok (.aload_n 0, 1) := by decide +kernel
theorem dL_law_807 : decode cL_law 807 = .ok (.iload_n 3, 1) := by decide +kernel
theorem dL_law_808 : decode cL_law 808 = .ok (.iconst 2, 1) := by decide +kernel
theorem dL_law_809 : decode cL_law 809 = .ok (.iadd, 1) := by decide +kernel
theorem dL_law_810 : decode cL_law 810 = .ok (.iaload, 1) := by decide +kernel
theorem dL_law_811 : decode cL_law 811 = .ok (.aload_n 0, 1) := by decide +kernel
theorem dL_law_812 : decode cL_law 812 = .ok (.iload_n 3, 1) := by decide +kernel
theorem dL_law_813 : decode cL_law 813 = .ok (.iconst 3, 1) := by decide +kernel
theorem dL_law_814 : decode cL_law 814 = .ok (.iadd, 1) := by decide +kernel
theorem dL_law_815 : decode cL_law 815 = .ok (.iaload, 1) := by decide +kernel
theorem dL_law_816 : decode cL_law 816 = .ok (.aload_n 0, 1) := by decide +kernel
theorem dL_law_817 : decode cL_law 817 = .ok (.iload_n 3, 1) := by decide +kernel
theorem dL_law_818 : decode cL_law 818 = .ok (.iconst 4, 1) := by decide +kernel
theorem dL_law_819 : decode cL_law 819 = .ok (.iadd, 1) := by decide +kernel
theorem dL_law_820 : decode cL_law 820 = .ok (.iaload, 1) := by decide +kernel
theorem dL_law_821 : decode cL_law 821 = .ok (.aload_n 0, 1) := by decide +kernel
theorem dL_law_822 : decode cL_law 822 = .ok (.iload_n 3, 1) := by decide +kernel
theorem dL_law_823 : decode cL_law 823 = .ok (.iconst 5, 1) := by decide +kernel
theorem dL_law_824 : decode cL_law 824 = .ok (.iadd, 1) := by decide +kernel
theorem dL_law_825 : decode cL_law 825 = .ok (.iaload, 1) := by decide +kernel
theorem dL_law_826 : decode cL_law 826 = .ok (.invokevirtual 98, 3) := by decide +kernel
theorem dL_law_829 : decode cL_law 829 = .ok (.if_icmp .eq 308, 3) := by decide +kernel
theorem dL_law_834 : decode cL_law 834 = .ok (.aload_n 1, 1) := by decide +kernel
theorem dL_law_835 : decode cL_law 835 = .ok (.aload_n 0, 1) := by decide +kernel
theorem dL_law_836 : decode cL_law 836 = .ok (.iload_n 3, 1) := by decide +kernel
theorem dL_law_837 : decode cL_law 837 = .ok (.iconst 1, 1) := by decide +kernel
theorem dL_law_838 : decode cL_law 838 = .ok (.iadd, 1) := by decide +kernel
theorem dL_law_839 : decode cL_law 839 = .ok (.iaload, 1) := by decide +kernel
theorem dL_law_840 : decode cL_law 840 = .ok (.aload_n 0, 1) := by decide +kernel
theorem dL_law_841 : decode cL_law 841 = .ok (.iload_n 3, 1) := by decide +kernel
theorem dL_law_842 : decode cL_law 842 = .ok (.iconst 2, 1) := by decide +kernel
theorem dL_law_843 : decode cL_law 843 = .ok (.iadd, 1) := by decide +kernel
theorem dL_law_844 : decode cL_law 844 = .ok (.iaload, 1) := by decide +kernel
theorem dL_law_845 : decode cL_law 845 = .ok (.invokevirtual 99, 3) := by decide +kernel
theorem dL_law_848 : decode cL_law 848 = .ok (.aload_n 2, 1) := by decide +kernel
theorem dL_law_849 : decode cL_law 849 = .ok (.aload_n 0, 1) := by decide +kernel
theorem dL_law_850 : decode cL_law 850 = .ok (.iload_n 3, 1) := by decide +kernel
theorem dL_law_851 : decode cL_law 851 = .ok (.iconst 1, 1) := by decide +kernel
theorem dL_law_852 : decode cL_law 852 = .ok (.iadd, 1) := by decide +kernel
theorem dL_law_853 : decode cL_law 853 = .ok (.iaload, 1) := by decide +kernel
theorem dL_law_854 : decode cL_law 854 = .ok (.aload_n 0, 1) := by decide +kernel
theorem dL_law_855 : decode cL_law 855 = .ok (.iload_n 3, 1) := by decide +kernel
theorem dL_law_856 : decode cL_law 856 = .ok (.iconst 2, 1) := by decide +kernel
theorem dL_law_857 : decode cL_law 857 = .ok (.iadd, 1) := by decide +kernel
theorem dL_law_858 : decode cL_law 858 = .ok (.iaload, 1) := by decide +kernel
theorem dL_law_859 : decode cL_law 859 = .ok (.invokevirtual 102, 3) := by decide +kernel
theorem dL_law_862 : decode cL_law 862 = .ok (.if_icmp .eq 275, 3) := by decide +kernel
theorem dL_law_867 : decode cL_law 867 = .ok (.aload_n 1, 1) := by decide +kernel
theorem dL_law_868 : decode cL_law 868 = .ok (.aload_n 0, 1) := by decide +kernel
theorem dL_law_869 : decode cL_law 869 = .ok (.iload_n 3, 1) := by decide +kernel
theorem dL_law_870 : decode cL_law 870 = .ok (.iconst 1, 1) := by decide +kernel
theorem dL_law_871 : decode cL_law 871 = .ok (.iadd, 1) := by decide +kernel
theorem dL_law_872 : decode cL_law 872 = .ok (.iaload, 1) := by decide +kernel
theorem dL_law_873 : decode cL_law 873 = .ok (.aload_n 0, 1) := by decide +kernel
theorem dL_law_874 : decode cL_law 874 = .ok (.iload_n 3, 1) := by decide +kernel
theorem dL_law_875 : decode cL_law 875 = .ok (.iconst 2, 1) := by decide +kernel
theorem dL_law_876 : decode cL_law 876 = .ok (.iadd, 1) := by decide +kernel
theorem dL_law_877 : decode cL_law 877 = .ok (.iaload, 1) := by decide +kernel
theorem dL_law_878 : decode cL_law 878 = .ok (.aload_n 0, 1) := by decide +kernel
theorem dL_law_879 : decode cL_law 879 = .ok (.iload_n 3, 1) := by decide +kernel
theorem dL_law_880 : decode cL_law 880 = .ok (.iconst 3, 1) := by decide +kernel
theorem dL_law_881 : decode cL_law 881 = .ok (.iadd, 1) := by decide +kernel
theorem dL_law_882 : decode cL_law 882 = .ok (.iaload, 1) := by decide +kernel
theorem dL_law_883 : decode cL_law 883 = .ok (.invokevirtual 103, 3) := by decide +kernel
theorem dL_law_886 : decode cL_law 886 = .ok (.aload_n 2, 1) := by decide +kernel
theorem dL_law_887 : decode cL_law 887 = .ok (.aload_n 0, 1) := by decide +kernel
theorem dL_law_888 : decode cL_law 888 = .ok (.iload_n 3, 1) := by decide +kernel
theorem dL_law_889 : decode cL_law 889 = .ok (.iconst 1, 1) := by decide +kernel
theorem dL_law_890 : decode cL_law 890 = .ok (.iadd, 1) := by decide +kernel
theorem dL_law_891 : decode cL_law 891 = .ok (.iaload, 1) := by decide +kernel
theorem dL_law_892 : decode cL_law 892 = .ok (.aload_n 0, 1) := by decide +kernel
theorem dL_law_893 : decode cL_law 893 = .ok (.iload_n 3, 1) := by decide +kernel
theorem dL_law_894 : decode cL_law 894 = .ok (.iconst 2, 1) := by decide +kernel
theorem dL_law_895 : decode cL_law 895 = .ok (.iadd, 1) := by decide +kernel
theorem dL_law_896 : decode cL_law 896 = .ok (.iaload, 1) := by decide +kernel
theorem dL_law_897 : decode cL_law 897 = .ok (.aload_n 0, 1) := by decide +kernel
theorem dL_law_898 : decode cL_law 898 = .ok (.iload_n 3, 1) := by decide +kernel
theorem dL_law_899 : decode cL_law 899 = .ok (.iconst 3, 1) := by decide +kernel
theorem dL_law_900 : decode cL_law 900 = .ok (.iadd, 1) := by decide +kernel
theorem dL_law_901 : decode cL_law 901 = .ok (.iaload, 1) := by decide +kernel
theorem dL_law_902 : decode cL_law 902 = .ok (.invokevirtual 106, 3) := by decide +kernel
theorem dL_law_905 : decode cL_law 905 = .ok (.if_icmp .eq 232, 3) := by decide +kernel
theorem dL_law_910 : decode cL_law 910 = .ok (.aload_n 1, 1) := by decide +kernel
theorem dL_law_911 : decode cL_law 911 = .ok (.aload_n 0, 1) := by decide +kernel
theorem dL_law_912 : decode cL_law 912 = .ok (.iload_n 3, 1) := by decide +kernel
theorem dL_law_913 : decode cL_law 913 = .ok (.iconst 1, 1) := by decide +kernel
theorem dL_law_914 : decode cL_law 914 = .ok (.iadd, 1) := by decide +kernel
theorem dL_law_915 : decode cL_law 915 = .ok (.iaload, 1) := by decide +kernel
theorem dL_law_916 : decode cL_law 916 = .ok (.aload_n 0, 1) := by decide +kernel
theorem dL_law_917 : decode cL_law 917 = .ok (.iload_n 3, 1) := by decide +kernel
theorem dL_law_918 : decode cL_law 918 = .ok (.iconst 2, 1) := by decide +kernel
theorem dL_law_919 : decode cL_law 919 = .ok (.iadd, 1) := by decide +kernel
theorem dL_law_920 : decode cL_law 920 = .ok (.iaload, 1) := by decide +kernel
theorem dL_law_921 : decode cL_law 921 = .ok (.aload_n 0, 1) := by decide +kernel
theorem dL_law_922 : decode cL_law 922 = .ok (.iload_n 3, 1) := by decide +kernel
theorem dL_law_923 : decode cL_law 923 = .ok (.iconst 3, 1) := by decide +kernel
theorem dL_law_924 : decode cL_law 924 = .ok (.iadd, 1) := by decide +kernel
theorem dL_law_925 : decode cL_law 925 = .ok (.iaload, 1) := by decide +kernel
theorem dL_law_926 : decode cL_law 926 = .ok (.ifCond .eq 7, 3) := by decide +kernel
theorem dL_law_929 : decode cL_law 929 = .ok (.iconst 1, 1) := by decide +kernel
theorem dL_law_930 : decode cL_law 930 = .ok (.goto 4, 3) := by decide +kernel
theorem dL_law_933 : decode cL_law 933 = .ok (.iconst 0, 1) := by decide +kernel
theorem dL_law_934 : decode cL_law 934 = .ok (.invokevirtual 107, 3) := by decide +kernel
theorem dL_law_937 : decode cL_law 937 = .ok (.aload_n 2, 1) := by decide +kernel
theorem dL_law_938 : decode cL_law 938 = .ok (.aload_n 0, 1) := by decide +kernel
theorem dL_law_939 : decode cL_law 939 = .ok (.iload_n 3, 1) := by decide +kernel
theorem dL_law_940 : decode cL_law 940 = .ok (.iconst 1, 1) := by decide +kernel
theorem dL_law_941 : decode cL_law 941 = .ok (.iadd, 1) := by decide +kernel
theorem dL_law_942 : decode cL_law 942 = .ok (.iaload, 1) := by decide +kernel
theorem dL_law_943 : decode cL_law 943 = .ok (.aload_n 0, 1) := by decide +kernel
theorem dL_law_944 : decode cL_law 944 = .ok (.iload_n 3, 1) := by decide +kernel
theorem dL_law_945 : decode cL_law 945 = .ok (.iconst 2, 1) := by decide +kernel
theorem dL_law_946 : decode cL_law 946 = .ok (.iadd, 1) := by decide +kernel
theorem dL_law_947 : decode cL_law 947 = .ok (.iaload, 1) := by decide +kernel
theorem dL_law_948 : decode cL_law 948 = .ok (.aload_n 0, 1) := by decide +kernel
theorem dL_law_949 : decode cL_law 949 = .ok (.iload_n 3, 1) := by decide +kernel
theorem dL_law_950 : decode cL_law 950 = .ok (.iconst 3, 1) := by decide +kernel
theorem dL_law_951 : decode cL_law 951 = .ok (.iadd, 1) := by decide +kernel
theorem dL_law_952 : decode cL_law 952 = .ok (.iaload, 1) := by decide +kernel
theorem dL_law_953 : decode cL_law 953 = .ok (.ifCond .eq 7, 3) := by decide +kernel
theorem dL_law_956 : decode cL_law 956 = .ok (.iconst 1, 1) := by decide +kernel
theorem dL_law_957 : decode cL_law 957 = .ok (.goto 4, 3) := by decide +kernel
theorem dL_law_960 : decode cL_law 960 = .ok (.iconst 0, 1) := by decide +kernel
theorem dL_law_961 : decode cL_law 961 = .ok (.invokevirtual 111, 3) := by decide +kernel
theorem dL_law_964 : decode cL_law 964 = .ok (.if_icmp .eq 173, 3) := by decide +kernel
theorem dL_law_969 : decode cL_law 969 = .ok (.aload_n 1, 1) := by decide +kernel
theorem dL_law_970 : decode cL_law 970 = .ok (.aload_n 0, 1) := by decide +kernel
theorem dL_law_971 : decode cL_law 971 = .ok (.iload_n 3, 1) := by decide +kernel
theorem dL_law_972 : decode cL_law 972 = .ok (.iconst 1, 1) := by decide +kernel
theorem dL_law_973 : decode cL_law 973 = .ok (.iadd, 1) := by decide +kernel
theorem dL_law_974 : decode cL_law 974 = .ok (.iaload, 1) := by decide +kernel
theorem dL_law_975 : decode cL_law 975 = .ok (.invokevirtual 112, 3) := by decide +kernel
theorem dL_law_978 : decode cL_law 978 = .ok (.aload_n 2, 1) := by decide +kernel
theorem dL_law_979 : decode cL_law 979 = .ok (.aload_n 0, 1) := by decide +kernel
theorem dL_law_980 : decode cL_law 980 = .ok (.iload_n 3, 1) := by decide +kernel
theorem dL_law_981 : decode cL_law 981 = .ok (.iconst 1, 1) := by decide +kernel
theorem dL_law_982 : decode cL_law 982 = .ok (.iadd, 1) := by decide +kernel
theorem dL_law_983 : decode cL_law 983 = .ok (.iaload, 1) := by decide +kernel
theorem dL_law_984 : decode cL_law 984 = .ok (.invokevirtual 115, 3) := by decide +kernel
theorem dL_law_987 : decode cL_law 987 = .ok (.if_icmp .eq 150, 3) := by decide +kernel
theorem dL_law_992 : decode cL_law 992 = .ok (.aload_n 1, 1) := by decide +kernel
theorem dL_law_993 : decode cL_law 993 = .ok (.aload_n 0, 1) := by decide +kernel
theorem dL_law_994 : decode cL_law 994 = .ok (.iload_n 3, 1) := by decide +kernel
theorem dL_law_995 : decode cL_law 995 = .ok (.iconst 1, 1) := by decide +kernel
theorem dL_law_996 : decode cL_law 996 = .ok (.iadd, 1) := by decide +kernel
theorem dL_law_997 : decode cL_law 997 = .ok (.iaload, 1) := by decide +kernel
theorem dL_law_998 : decode cL_law 998 = .ok (.invokevirtual 116, 3) := by decide +kernel
theorem dL_law_1001 : decode cL_law 1001 = .ok (.aload_n 2, 1) := by decide +kernel
theorem dL_law_1002 : decode cL_law 1002 = .ok (.aload_n 0, 1) := by decide +kernel
theorem dL_law_1003 : decode cL_law 1003 = .ok (.iload_n 3, 1) := by decide +kernel
theorem dL_law_1004 : decode cL_law 1004 = .ok (.iconst 1, 1) := by decide +kernel
theorem dL_law_1005 : decode cL_law 1005 = .ok (.iadd, 1) := by decide +kernel
theorem dL_law_1006 : decode cL_law 1006 = .ok (.iaload, 1) := by decide +kernel
theorem dL_law_1007 : decode cL_law 1007 = .ok (.invokevirtual 119, 3) := by decide +kernel
theorem dL_law_1010 : decode cL_law 1010 = .ok (.if_icmp .eq 127, 3) := by decide +kernel
theorem dL_law_1015 : decode cL_law 1015 = .ok (.aload_n 1, 1) := by decide +kernel
theorem dL_law_1016 : decode cL_law 1016 = .ok (.aload_n 0, 1) := by decide +kernel
theorem dL_law_1017 : decode cL_law 1017 = .ok (.iload_n 3, 1) := by decide +kernel
theorem dL_law_1018 : decode cL_law 1018 = .ok (.iconst 1, 1) := by decide +kernel
theorem dL_law_1019 : decode cL_law 1019 = .ok (.iadd, 1) := by decide +kernel
theorem dL_law_1020 : decode cL_law 1020 = .ok (.iaload, 1) := by decide +kernel
theorem dL_law_1021 : decode cL_law 1021 = .ok (.aload_n 0, 1) := by decide +kernel
theorem dL_law_1022 : decode cL_law 1022 = .ok (.iload_n 3, 1) := by decide +kernel
theorem dL_law_1023 : decode cL_law 1023 = .ok (.iconst 2, 1) := by decide +kernel
theorem dL_law_1024 : decode cL_law 1024 = .ok (.iadd, 1) := by decide +kernel
theorem dL_law_1025 : decode cL_law 1025 = .ok (.iaload, 1) := by decide +kernel
theorem dL_law_1026 : decode cL_law 1026 = .ok (.aload_n 0, 1) := by decide +kernel
theorem dL_law_1027 : decode cL_law 1027 = .ok (.iload_n 3, 1) := by decide +kernel
theorem dL_law_1028 : decode cL_law 1028 = .ok (.iconst 3, 1) := by decide +kernel
theorem dL_law_1029 : decode cL_law 1029 = .ok (.iadd, 1) := by decide +kernel
theorem dL_law_1030 : decode cL_law 1030 = .ok (.iaload, 1) := by decide +kernel
theorem dL_law_1031 : decode cL_law 1031 = .ok (.aload_n 0, 1) := by decide +kernel
theorem dL_law_1032 : decode cL_law 1032 = .ok (.iload_n 3, 1) := by decide +kernel
theorem dL_law_1033 : decode cL_law 1033 = .ok (.iconst 4, 1) := by decide +kernel
theorem dL_law_1034 : decode cL_law 1034 = .ok (.iadd, 1) := by decide +kernel
theorem dL_law_1035 : decode cL_law 1035 = .ok (.iaload, 1) := by decide +kernel
theorem dL_law_1036 : decode cL_law 1036 = .ok (.invokevirtual 120, 3) := by decide +kernel
theorem dL_law_1039 : decode cL_law 1039 = .ok (.aload_n 2, 1) := by decide +kernel
theorem dL_law_1040 : decode cL_law 1040 = .ok (.aload_n 0, 1) := by decide +kernel
theorem dL_law_1041 : decode cL_law 1041 = .ok (.iload_n 3, 1) := by decide +kernel
theorem dL_law_1042 : decode cL_law 1042 = .ok (.iconst 1, 1) := by decide +kernel
theorem dL_law_1043 : decode cL_law 1043 = .ok (.iadd, 1) := by decide +kernel
theorem dL_law_1044 : decode cL_law 1044 = .ok (.iaload, 1) := by decide +kernel
theorem dL_law_1045 : decode cL_law 1045 = .ok (.aload_n 0, 1) := by decide +kernel
theorem dL_law_1046 : decode cL_law 1046 = .ok (.iload_n 3, 1) := by decide +kernel
theorem dL_law_1047 : decode cL_law 1047 = .ok (.iconst 2, 1) := by decide +kernel
theorem dL_law_1048 : decode cL_law 1048 = .ok (.iadd, 1) := by decide +kernel
theorem dL_law_1049 : decode cL_law 1049 = .ok (.iaload, 1) := by decide +kernel
theorem dL_law_1050 : decode cL_law 1050 = .ok (.aload_n 0, 1) := by decide +kernel
theorem dL_law_1051 : decode cL_law 1051 = .ok (.iload_n 3, 1) := by decide +kernel
theorem dL_law_1052 : decode cL_law 1052 = .ok (.iconst 3, 1) := by decide +kernel
theorem dL_law_1053 : decode cL_law 1053 = .ok (.iadd, 1) := by decide +kernel
theorem dL_law_1054 : decode cL_law 1054 = .ok (.iaload, 1) := by decide +kernel
theorem dL_law_1055 : decode cL_law 1055 = .ok (.aload_n 0, 1) := by decide +kernel
theorem dL_law_1056 : decode cL_law 1056 = .ok (.iload_n 3, 1) := by decide +kernel
theorem dL_law_1057 : decode cL_law 1057 = .ok (.iconst 4, 1) := by decide +kernel
theorem dL_law_1058 : decode cL_law 1058 = .ok (.iadd, 1) := by decide +kernel
theorem dL_law_1059 : decode cL_law 1059 = .ok (.iaload, 1) := by decide +kernel
theorem dL_law_1060 : decode cL_law 1060 = .ok (.invokevirtual 124, 3) := by decide +kernel
theorem dL_law_1063 : decode cL_law 1063 = .ok (.if_icmp .eq 74, 3) := by decide +kernel
theorem dL_law_1068 : decode cL_law 1068 = .ok (.aload_n 1, 1) := by decide +kernel
theorem dL_law_1069 : decode cL_law 1069 = .ok (.aload_n 0, 1) := by decide +kernel
theorem dL_law_1070 : decode cL_law 1070 = .ok (.iload_n 3, 1) := by decide +kernel
theorem dL_law_1071 : decode cL_law 1071 = .ok (.iconst 1, 1) := by decide +kernel
theorem dL_law_1072 : decode cL_law 1072 = .ok (.iadd, 1) := by decide +kernel
theorem dL_law_1073 : decode cL_law 1073 = .ok (.iaload, 1) := by decide +kernel
theorem dL_law_1074 : decode cL_law 1074 = .ok (.invokevirtual 125, 3) := by decide +kernel
theorem dL_law_1077 : decode cL_law 1077 = .ok (.aload_n 2, 1) := by decide +kernel
theorem dL_law_1078 : decode cL_law 1078 = .ok (.aload_n 0, 1) := by decide +kernel
theorem dL_law_1079 : decode cL_law 1079 = .ok (.iload_n 3, 1) := by decide +kernel
theorem dL_law_1080 : decode cL_law 1080 = .ok (.iconst 1, 1) := by decide +kernel
theorem dL_law_1081 : decode cL_law 1081 = .ok (.iadd, 1) := by decide +kernel
theorem dL_law_1082 : decode cL_law 1082 = .ok (.iaload, 1) := by decide +kernel
theorem dL_law_1083 : decode cL_law 1083 = .ok (.invokevirtual 128, 3) := by decide +kernel
theorem dL_law_1086 : decode cL_law 1086 = .ok (.if_icmp .eq 51, 3) := by decide +kernel
theorem dL_law_1091 : decode cL_law 1091 = .ok (.aload_n 1, 1) := by decide +kernel
theorem dL_law_1092 : decode cL_law 1092 = .ok (.aload_n 0, 1) := by decide +kernel
theorem dL_law_1093 : decode cL_law 1093 = .ok (.iload_n 3, 1) := by decide +kernel
theorem dL_law_1094 : decode cL_law 1094 = .ok (.iconst 1, 1) := by decide +kernel
theorem dL_law_1095 : decode cL_law 1095 = .ok (.iadd, 1) := by decide +kernel
theorem dL_law_1096 : decode cL_law 1096 = .ok (.iaload, 1) := by decide +kernel
theorem dL_law_1097 : decode cL_law 1097 = .ok (.invokevirtual 129, 3) := by decide +kernel
theorem dL_law_1100 : decode cL_law 1100 = .ok (.aload_n 2, 1) := by decide +kernel
theorem dL_law_1101 : decode cL_law 1101 = .ok (.aload_n 0, 1) := by decide +kernel
theorem dL_law_1102 : decode cL_law 1102 = .ok (.iload_n 3, 1) := by decide +kernel
theorem dL_law_1103 : decode cL_law 1103 = .ok (.iconst 1, 1) := by decide +kernel
theorem dL_law_1104 : decode cL_law 1104 = .ok (.iadd, 1) := by decide +kernel
theorem dL_law_1105 : decode cL_law 1105 = .ok (.iaload, 1) := by decide +kernel
theorem dL_law_1106 : decode cL_law 1106 = .ok (.invokevirtual 132, 3) := by decide +kernel
theorem dL_law_1109 : decode cL_law 1109 = .ok (.if_icmp .eq 28, 3) := by decide +kernel
theorem dL_law_1114 : decode cL_law 1114 = .ok (.aload_n 1, 1) := by decide +kernel
theorem dL_law_1115 : decode cL_law 1115 = .ok (.aload_n 0, 1) := by decide +kernel
theorem dL_law_1116 : decode cL_law 1116 = .ok (.iload_n 3, 1) := by decide +kernel
theorem dL_law_1117 : decode cL_law 1117 = .ok (.iconst 1, 1) := by decide +kernel
theorem dL_law_1118 : decode cL_law 1118 = .ok (.iadd, 1) := by decide +kernel
theorem dL_law_1119 : decode cL_law 1119 = .ok (.iaload, 1) := by decide +kernel
theorem dL_law_1120 : decode cL_law 1120 = .ok (.invokevirtual 133, 3) := by decide +kernel
theorem dL_law_1123 : decode cL_law 1123 = .ok (.aload_n 2, 1) := by decide +kernel
theorem dL_law_1124 : decode cL_law 1124 = .ok (.aload_n 0, 1) := by decide +kernel
theorem dL_law_1125 : decode cL_law 1125 = .ok (.iload_n 3, 1) := by decide +kernel
theorem dL_law_1126 : decode cL_law 1126 = .ok (.iconst 1, 1) := by decide +kernel
theorem dL_law_1127 : decode cL_law 1127 = .ok (.iadd, 1) := by decide +kernel
theorem dL_law_1128 : decode cL_law 1128 = .ok (.iaload, 1) := by decide +kernel
theorem dL_law_1129 : decode cL_law 1129 = .ok (.invokevirtual 136, 3) := by decide +kernel
theorem dL_law_1132 : decode cL_law 1132 = .ok (.if_icmp .eq 5, 3) := by decide +kernel
theorem dL_law_1137 : decode cL_law 1137 = .ok (.iinc 3 6, 3) := by decide +kernel
theorem dL_law_1140 : decode cL_law 1140 = .ok (.goto (-1122), 3) := by decide +kernel
theorem dL_law_1143 : decode cL_law 1143 = .ok (.iconst 1, 1) := by decide +kernel
theorem dL_law_1144 : decode cL_law 1144 = .ok (.ireturn, 1) := by decide +kernel
set_option maxHeartbeats 40000000 in
set_option maxRecDepth 100000 in
theorem hz_law {p : Program} {e : Env} {s : State} {m : MethodId} {below : List Frame} {meth : Method} {c : Code} (l : Launch) {b : Nat} {xs : Nat → Int32} (C0 : lw_At p s m meth c b 6 xs) : W p l e room_1 s m #[Value.ref b] below meth c s.heap [] 0 0 (lw_Z below #[Value.ref b] s) (entryFrame m ([Value.ref b] : List Value).toArray 4) := by
  obtain ⟨hx, hb, hr, hml, hown, hts, hX, hbl, hlocks, hgv⟩ := C0
  have hT : ∀ w ∈ TB, w.before _ s = true := fun w h => hts w (TB_ok w h).1
  obtain ⟨A, hAe⟩ : ∃ A : Nat → Prop, A = fun q : Nat => s.heap.size ≤ q := ⟨_, rfl⟩
  have hA : ∀ q : Nat, s.heap.size ≤ q → A q := fun q h => by rw [hAe]; exact h
  have hAn : ∀ q : Nat, q < s.heap.size → ¬ A q := fun q h z => by rw [hAe] at z; exact absurd z (Nat.not_le.mpr h)
  obtain ⟨D, cs, kK, kV, hE⟩ := hz_start hts hgv hAn
  have hbA : ¬ A b := hAn b hbl
  have hb : c.code = cL_law := hb
  have hown : s.vm.findClass RL = some m.cls := hown
  have hK := hE.1
  have hP : va_P D classes [] s.heap := hz_P0
  have hD : va_D A [] := hz_D0
  have hS : va_S A s.heap s.heap [] := va_S.rf
  have hl := lv_entry ([.ref b]) (n := 4) (Nat.le_of_ble_eq_true rfl)
  rw [lg_entry_eq]
  generalize (lg_sl ([.ref b]) ++ List.replicate (4 - (lg_sl ([.ref b])).length) Slot.unset).toArray = ls at hl ⊢
  have hl : lv_has ls 4 [(0, .ref b)] := hl
  obtain ⟨H, eH⟩ : ∃ z, z = s.heap := ⟨_, rfl⟩
  have hP : va_P D classes [] H := hz_P0
  have hS : va_S A s.heap H [] := by rw [eH]; exact hS
  rw [← eH]
  clear eH hAn
  refine va_new (D := D) (ci := 11) (fs := [.null, .null, .null, .null, .int 0, .null, .null, .null, .null, .int 0, .int 0, .null, .null, .null, .null, .null, .int 0]) (C := RX11) (T := TX11) (N := 17) hx hb hT i_X11 tyX11 tyX11_ok hown (hT _ q_395) (hT _ q_393) (hT _ q_174) hK hP hD hS hA rfl df_X11 (Nat.le_of_ble_eq_true rfl) (Nat.le_of_ble_eq_true rfl) dL_law_0 (fun n_1 H hP hD hS => ?_)
  have hP : va_P D classes [(n_1, .inr (11, [.null, .null, .null, .null, .int 0, .null, .null, .null, .null, .int 0, .int 0, .null, .null, .null, .null, .null, .int 0]))] H := hP
  have hD : va_D A [(n_1, .inr (11, [.null, .null, .null, .null, .int 0, .null, .null, .null, .null, .int 0, .int 0, .null, .null, .null, .null, .null, .int 0]))] := hD
  refine W.widen (k := 1) (n := 17) (Nat.le_of_ble_eq_true rfl) (Nat.le_of_ble_eq_true rfl) ?_
  refine lv_dup hx hb dL_law_3 rfl ?_
  have hFc := va_free (wc := [(n_1, .inr (11, [.null, .null, .null, .null, .int 0, .null, .null, .null, .null, .int 0, .int 0, .null, .null, .null, .null, .null, .int 0]))]) hD hS hA [0] rfl
  refine va_callv (va_runI (As := []) (rest := [.ref n_1]) ⟨hx, hb, hml, hown, hT⟩ (c_X11_init l D cs kK kV n_1 H.size) (cwI 0 hT (hz_gw q_396) rfl rfl rfl (hT _ q_174) (hT _ q_397) (hT _ q_398) rfl (by decide +kernel) ⟨(Nat.le_of_ble_eq_true rfl), (Nat.le_of_ble_eq_true rfl)⟩) ⟨hz_C.blind, hz_C.mk (hP.sub (ws' := [(n_1, .inr (11, [.null, .null, .null, .null, .int 0, .null, .null, .null, .null, .int 0, .int 0, .null, .null, .null, .null, .null, .int 0]))]) [0] rfl) (hD.sub (ws' := [(n_1, .inr (11, [.null, .null, .null, .null, .int 0, .null, .null, .null, .null, .int 0, .int 0, .null, .null, .null, .null, .null, .int 0]))]) [0] (by decide) rfl) hE hS hFc⟩ rfl rfl hl.1 rfl (lv_room (Nat.le_of_ble_eq_true rfl)) dL_law_4 ⟨(Nat.le_of_ble_eq_true rfl), (Nat.le_of_ble_eq_true rfl)⟩) hS (fun q _ h => hFc q h) hFc (fun u t H1 locs ht hvm hw hB hz1 hk1 hS => ?_)
  obtain ⟨g_3, r_4, eg, hP1, hD1⟩ := hB
  rw [ht] at hP1
  obtain ⟨hP, hD⟩ := va_join (wr := []) (w1 := [(g_3 0, .inr (11, [.ref (g_3 1), .ref (g_3 2), .ref (g_3 3), .ref (g_3 4), .int 0, .ref (g_3 5), .ref (g_3 6), .ref (g_3 7), .ref (g_3 8), .int 0, .int 0, .ref (g_3 9), .ref (g_3 10), .ref (g_3 11), .ref (g_3 12), .ref (g_3 13), .int 0])), (g_3 1, .inr (7, [.ref (g_3 14), .int 0, .int 0, .int 0])), (g_3 14, .inl (cs 0, 400, .inl (fun _ => 0))), (g_3 2, .inr (0, [.null, .null, .int 0])), (g_3 3, .inr (5, [.null, .ref (g_3 15), .int 0, .int 0])), (g_3 5, .inr (8, [.int 0, .int 0, .int 0, .int 0, .int 0, .int 12, .int 5, .int 1, .int 0, .ref (r_4 0), .ref (r_4 1), .ref (r_4 2), .ref (r_4 3), .ref (r_4 4), .ref (r_4 5), .ref (r_4 6), .ref (r_4 7), .ref (r_4 8)])), (g_3 6, .inr (6, [.int 0, .ref (g_3 16), .ref (g_3 17), .ref (g_3 18), .ref (g_3 19), .ref (g_3 20)])), (g_3 16, .inl (cs 0, 4, .inl (fun _ => 0))), (g_3 17, .inl (cs 0, 4, .inl (fun _ => 0))), (g_3 18, .inl (cs 0, 4, .inl (fun _ => 0))), (g_3 19, .inl (cs 0, 4, .inl (fun _ => 0))), (g_3 20, .inl (cs 0, 8, .inl (fun _ => 0))), (g_3 9, .inr (9, [.int 0, .int 0, .int 0, .ref (g_3 21), .ref (g_3 22), .ref (g_3 23), .ref (g_3 24)])), (g_3 22, .inl (cs 0, 12, .inl (fun _ => 0))), (g_3 23, .inl (cs 0, 12, .inl (fun _ => 0))), (g_3 24, .inl (cs 2, 12, .inl (fun _ => 0))), (g_3 10, .inl (cs 6, 4, .inr (.inr (.inr (.inr (fun _ => none))))))]) hP hD [0] [] rfl rfl (by decide) (by decide) hk1 hFc hP1 hD1
  generalize H1 = H at hP hS ⊢
  have hP : va_P D classes [(g_3 0, .inr (11, [.ref (g_3 1), .ref (g_3 2), .ref (g_3 3), .ref (g_3 4), .int 0, .ref (g_3 5), .ref (g_3 6), .ref (g_3 7), .ref (g_3 8), .int 0, .int 0, .ref (g_3 9), .ref (g_3 10), .ref (g_3 11), .ref (g_3 12), .ref (g_3 13), .int 0])), (g_3 1, .inr (7, [.ref (g_3 14), .int 0, .int 0, .int 0])), (g_3 14, .inl (cs 0, 400, .inl (fun _ => 0))), (g_3 2, .inr (0, [.null, .null, .int 0])), (g_3 3, .inr (5, [.null, .ref (g_3 15), .int 0, .int 0])), (g_3 5, .inr (8, [.int 0, .int 0, .int 0, .int 0, .int 0, .int 12, .int 5, .int 1, .int 0, .ref (r_4 0), .ref (r_4 1), .ref (r_4 2), .ref (r_4 3), .ref (r_4 4), .ref (r_4 5), .ref (r_4 6), .ref (r_4 7), .ref (r_4 8)])), (g_3 6, .inr (6, [.int 0, .ref (g_3 16), .ref (g_3 17), .ref (g_3 18), .ref (g_3 19), .ref (g_3 20)])), (g_3 16, .inl (cs 0, 4, .inl (fun _ => 0))), (g_3 17, .inl (cs 0, 4, .inl (fun _ => 0))), (g_3 18, .inl (cs 0, 4, .inl (fun _ => 0))), (g_3 19, .inl (cs 0, 4, .inl (fun _ => 0))), (g_3 20, .inl (cs 0, 8, .inl (fun _ => 0))), (g_3 9, .inr (9, [.int 0, .int 0, .int 0, .ref (g_3 21), .ref (g_3 22), .ref (g_3 23), .ref (g_3 24)])), (g_3 22, .inl (cs 0, 12, .inl (fun _ => 0))), (g_3 23, .inl (cs 0, 12, .inl (fun _ => 0))), (g_3 24, .inl (cs 2, 12, .inl (fun _ => 0))), (g_3 10, .inl (cs 6, 4, .inr (.inr (.inr (.inr (fun _ => none))))))] H := hP
  have hD : va_D A [(g_3 0, .inr (11, [.ref (g_3 1), .ref (g_3 2), .ref (g_3 3), .ref (g_3 4), .int 0, .ref (g_3 5), .ref (g_3 6), .ref (g_3 7), .ref (g_3 8), .int 0, .int 0, .ref (g_3 9), .ref (g_3 10), .ref (g_3 11), .ref (g_3 12), .ref (g_3 13), .int 0])), (g_3 1, .inr (7, [.ref (g_3 14), .int 0, .int 0, .int 0])), (g_3 14, .inl (cs 0, 400, .inl (fun _ => 0))), (g_3 2, .inr (0, [.null, .null, .int 0])), (g_3 3, .inr (5, [.null, .ref (g_3 15), .int 0, .int 0])), (g_3 5, .inr (8, [.int 0, .int 0, .int 0, .int 0, .int 0, .int 12, .int 5, .int 1, .int 0, .ref (r_4 0), .ref (r_4 1), .ref (r_4 2), .ref (r_4 3), .ref (r_4 4), .ref (r_4 5), .ref (r_4 6), .ref (r_4 7), .ref (r_4 8)])), (g_3 6, .inr (6, [.int 0, .ref (g_3 16), .ref (g_3 17), .ref (g_3 18), .ref (g_3 19), .ref (g_3 20)])), (g_3 16, .inl (cs 0, 4, .inl (fun _ => 0))), (g_3 17, .inl (cs 0, 4, .inl (fun _ => 0))), (g_3 18, .inl (cs 0, 4, .inl (fun _ => 0))), (g_3 19, .inl (cs 0, 4, .inl (fun _ => 0))), (g_3 20, .inl (cs 0, 8, .inl (fun _ => 0))), (g_3 9, .inr (9, [.int 0, .int 0, .int 0, .ref (g_3 21), .ref (g_3 22), .ref (g_3 23), .ref (g_3 24)])), (g_3 22, .inl (cs 0, 12, .inl (fun _ => 0))), (g_3 23, .inl (cs 0, 12, .inl (fun _ => 0))), (g_3 24, .inl (cs 2, 12, .inl (fun _ => 0))), (g_3 10, .inl (cs 6, 4, .inr (.inr (.inr (.inr (fun _ => none))))))] := hD
  clear hk1 hFc hP1 hD1 hz1
  rw [← eg]
  clear eg
  refine W.widen (k := 166) (n := 10231) (Nat.le_of_ble_eq_true rfl) (Nat.le_of_ble_eq_true rfl) ?_
  refine lv_astore_n (lv' := [(1, .ref (g_3 0)), (0, .ref b)]) hx hb dL_law_7 rfl hl (by decide) rfl (fun ls hl => ?_)
  refine va_new (D := D) (ci := 12) (fs := [.null, .int 0, .int 0, .null, .null, .null, .null, .null, .int 0, .int 0, .int 0, .int 0, .int 0, .int 0, .int 0, .null, .int 0, .null, .int 0, .null, .null, .int 0, .null, .null, .null, .int 0, .int 0, .null, .null, .int 0, .int 0, .int 0, .null, .long 0, .null, .null, .null]) (C := RX12) (T := TX12) (N := 37) hx hb hT i_X12 tyX12 tyX12_ok hown (hT _ q_399) (hT _ q_394) (hT _ q_252) hK hP hD hS hA rfl df_X12 (Nat.le_of_ble_eq_true rfl) (Nat.le_of_ble_eq_true rfl) dL_law_8 (fun n_5 H hP hD hS => ?_)
  have hP : va_P D classes [(g_3 0, .inr (11, [.ref (g_3 1), .ref (g_3 2), .ref (g_3 3), .ref (g_3 4), .int 0, .ref (g_3 5), .ref (g_3 6), .ref (g_3 7), .ref (g_3 8), .int 0, .int 0, .ref (g_3 9), .ref (g_3 10), .ref (g_3 11), .ref (g_3 12), .ref (g_3 13), .int 0])), (g_3 1, .inr (7, [.ref (g_3 14), .int 0, .int 0, .int 0])), (g_3 14, .inl (cs 0, 400, .inl (fun _ => 0))), (g_3 2, .inr (0, [.null, .null, .int 0])), (g_3 3, .inr (5, [.null, .ref (g_3 15), .int 0, .int 0])), (g_3 5, .inr (8, [.int 0, .int 0, .int 0, .int 0, .int 0, .int 12, .int 5, .int 1, .int 0, .ref (r_4 0), .ref (r_4 1), .ref (r_4 2), .ref (r_4 3), .ref (r_4 4), .ref (r_4 5), .ref (r_4 6), .ref (r_4 7), .ref (r_4 8)])), (g_3 6, .inr (6, [.int 0, .ref (g_3 16), .ref (g_3 17), .ref (g_3 18), .ref (g_3 19), .ref (g_3 20)])), (g_3 16, .inl (cs 0, 4, .inl (fun _ => 0))), (g_3 17, .inl (cs 0, 4, .inl (fun _ => 0))), (g_3 18, .inl (cs 0, 4, .inl (fun _ => 0))), (g_3 19, .inl (cs 0, 4, .inl (fun _ => 0))), (g_3 20, .inl (cs 0, 8, .inl (fun _ => 0))), (g_3 9, .inr (9, [.int 0, .int 0, .int 0, .ref (g_3 21), .ref (g_3 22), .ref (g_3 23), .ref (g_3 24)])), (g_3 22, .inl (cs 0, 12, .inl (fun _ => 0))), (g_3 23, .inl (cs 0, 12, .inl (fun _ => 0))), (g_3 24, .inl (cs 2, 12, .inl (fun _ => 0))), (g_3 10, .inl (cs 6, 4, .inr (.inr (.inr (.inr (fun _ => none)))))), (n_5, .inr (12, [.null, .int 0, .int 0, .null, .null, .null, .null, .null, .int 0, .int 0, .int 0, .int 0, .int 0, .int 0, .int 0, .null, .int 0, .null, .int 0, .null, .null, .int 0, .null, .null, .null, .int 0, .int 0, .null, .null, .int 0, .int 0, .int 0, .null, .long 0, .null, .null, .null]))] H := hP
  have hD : va_D A [(g_3 0, .inr (11, [.ref (g_3 1), .ref (g_3 2), .ref (g_3 3), .ref (g_3 4), .int 0, .ref (g_3 5), .ref (g_3 6), .ref (g_3 7), .ref (g_3 8), .int 0, .int 0, .ref (g_3 9), .ref (g_3 10), .ref (g_3 11), .ref (g_3 12), .ref (g_3 13), .int 0])), (g_3 1, .inr (7, [.ref (g_3 14), .int 0, .int 0, .int 0])), (g_3 14, .inl (cs 0, 400, .inl (fun _ => 0))), (g_3 2, .inr (0, [.null, .null, .int 0])), (g_3 3, .inr (5, [.null, .ref (g_3 15), .int 0, .int 0])), (g_3 5, .inr (8, [.int 0, .int 0, .int 0, .int 0, .int 0, .int 12, .int 5, .int 1, .int 0, .ref (r_4 0), .ref (r_4 1), .ref (r_4 2), .ref (r_4 3), .ref (r_4 4), .ref (r_4 5), .ref (r_4 6), .ref (r_4 7), .ref (r_4 8)])), (g_3 6, .inr (6, [.int 0, .ref (g_3 16), .ref (g_3 17), .ref (g_3 18), .ref (g_3 19), .ref (g_3 20)])), (g_3 16, .inl (cs 0, 4, .inl (fun _ => 0))), (g_3 17, .inl (cs 0, 4, .inl (fun _ => 0))), (g_3 18, .inl (cs 0, 4, .inl (fun _ => 0))), (g_3 19, .inl (cs 0, 4, .inl (fun _ => 0))), (g_3 20, .inl (cs 0, 8, .inl (fun _ => 0))), (g_3 9, .inr (9, [.int 0, .int 0, .int 0, .ref (g_3 21), .ref (g_3 22), .ref (g_3 23), .ref (g_3 24)])), (g_3 22, .inl (cs 0, 12, .inl (fun _ => 0))), (g_3 23, .inl (cs 0, 12, .inl (fun _ => 0))), (g_3 24, .inl (cs 2, 12, .inl (fun _ => 0))), (g_3 10, .inl (cs 6, 4, .inr (.inr (.inr (.inr (fun _ => none)))))), (n_5, .inr (12, [.null, .int 0, .int 0, .null, .null, .null, .null, .null, .int 0, .int 0, .int 0, .int 0, .int 0, .int 0, .int 0, .null, .int 0, .null, .int 0, .null, .null, .int 0, .null, .null, .null, .int 0, .int 0, .null, .null, .int 0, .int 0, .int 0, .null, .long 0, .null, .null, .null]))] := hD
  refine W.widen (k := 167) (n := 10268) (Nat.le_of_ble_eq_true rfl) (Nat.le_of_ble_eq_true rfl) ?_
  refine lv_dup hx hb dL_law_11 rfl ?_
  have hFc := va_free (wc := [(n_5, .inr (12, [.null, .int 0, .int 0, .null, .null, .null, .null, .null, .int 0, .int 0, .int 0, .int 0, .int 0, .int 0, .int 0, .null, .int 0, .null, .int 0, .null, .null, .int 0, .null, .null, .null, .int 0, .int 0, .null, .null, .int 0, .int 0, .int 0, .null, .long 0, .null, .null, .null]))]) hD hS hA [17] rfl
  refine va_callv (va_runI (As := []) (rest := [.ref n_5]) ⟨hx, hb, hml, hown, hT⟩ (c_X12_init l D cs kK kV n_5 H.size) (cwI 0 hT (hz_gw q_400) rfl rfl rfl (hT _ q_252) (hT _ q_401) (hT _ q_402) rfl (by decide +kernel) ⟨(Nat.le_of_ble_eq_true rfl), (Nat.le_of_ble_eq_true rfl)⟩) ⟨hz_C.blind, hz_C.mk (hP.sub (ws' := [(n_5, .inr (12, [.null, .int 0, .int 0, .null, .null, .null, .null, .null, .int 0, .int 0, .int 0, .int 0, .int 0, .int 0, .int 0, .null, .int 0, .null, .int 0, .null, .null, .int 0, .null, .null, .null, .int 0, .int 0, .null, .null, .int 0, .int 0, .int 0, .null, .long 0, .null, .null, .null]))]) [17] rfl) (hD.sub (ws' := [(n_5, .inr (12, [.null, .int 0, .int 0, .null, .null, .null, .null, .null, .int 0, .int 0, .int 0, .int 0, .int 0, .int 0, .int 0, .null, .int 0, .null, .int 0, .null, .null, .int 0, .null, .null, .null, .int 0, .int 0, .null, .null, .int 0, .int 0, .int 0, .null, .long 0, .null, .null, .null]))]) [17] (by decide) rfl) hE hS hFc⟩ rfl rfl hl.1 rfl (lv_room (Nat.le_of_ble_eq_true rfl)) dL_law_12 ⟨(Nat.le_of_ble_eq_true rfl), (Nat.le_of_ble_eq_true rfl)⟩) hS (fun q _ h => hFc q h) hFc (fun u t H1 locs ht hvm hw hB hz1 hk1 hS => ?_)
  obtain ⟨g_7, eg, hP1, hD1⟩ := hB
  rw [ht] at hP1
  obtain ⟨hP, hD⟩ := va_join (wr := [(g_3 0, .inr (11, [.ref (g_3 1), .ref (g_3 2), .ref (g_3 3), .ref (g_3 4), .int 0, .ref (g_3 5), .ref (g_3 6), .ref (g_3 7), .ref (g_3 8), .int 0, .int 0, .ref (g_3 9), .ref (g_3 10), .ref (g_3 11), .ref (g_3 12), .ref (g_3 13), .int 0])), (g_3 1, .inr (7, [.ref (g_3 14), .int 0, .int 0, .int 0])), (g_3 14, .inl (cs 0, 400, .inl (fun _ => 0))), (g_3 2, .inr (0, [.null, .null, .int 0])), (g_3 3, .inr (5, [.null, .ref (g_3 15), .int 0, .int 0])), (g_3 5, .inr (8, [.int 0, .int 0, .int 0, .int 0, .int 0, .int 12, .int 5, .int 1, .int 0, .ref (r_4 0), .ref (r_4 1), .ref (r_4 2), .ref (r_4 3), .ref (r_4 4), .ref (r_4 5), .ref (r_4 6), .ref (r_4 7), .ref (r_4 8)])), (g_3 6, .inr (6, [.int 0, .ref (g_3 16), .ref (g_3 17), .ref (g_3 18), .ref (g_3 19), .ref (g_3 20)])), (g_3 16, .inl (cs 0, 4, .inl (fun _ => 0))), (g_3 17, .inl (cs 0, 4, .inl (fun _ => 0))), (g_3 18, .inl (cs 0, 4, .inl (fun _ => 0))), (g_3 19, .inl (cs 0, 4, .inl (fun _ => 0))), (g_3 20, .inl (cs 0, 8, .inl (fun _ => 0))), (g_3 9, .inr (9, [.int 0, .int 0, .int 0, .ref (g_3 21), .ref (g_3 22), .ref (g_3 23), .ref (g_3 24)])), (g_3 22, .inl (cs 0, 12, .inl (fun _ => 0))), (g_3 23, .inl (cs 0, 12, .inl (fun _ => 0))), (g_3 24, .inl (cs 2, 12, .inl (fun _ => 0))), (g_3 10, .inl (cs 6, 4, .inr (.inr (.inr (.inr (fun _ => none))))))]) (w1 := [(g_7 0, .inr (12, [.ref (g_7 1), .int 0, .int 0, .ref (g_7 2), .ref (g_7 3), .ref (g_7 4), .ref (g_7 5), .ref (g_7 6), .int 0, .int 0, .int 0, .int 0, .int 0, .int 0, .int 0, .ref (g_7 7), .int 0, .ref (g_7 8), .int 0, .ref (g_7 9), .ref (g_7 10), .int 0, .ref (g_7 11), .ref (g_7 12), .ref (g_7 13), .int 0, .int 0, .ref (g_7 14), .ref (g_7 15), .int 0, .int 0, .int 0, .ref (g_7 16), .long 0, .ref (g_7 17), .ref (g_7 18), .ref (g_7 19)])), (g_7 1, .inl (cs 1, 400, .inl (fun _ => 0))), (g_7 3, .inl (cs 0, 7, .inl (fun _ => 0))), (g_7 5, .inl (cs 0, 6, .inl (fun _ => 0))), (g_7 6, .inl (cs 0, 86, .inl (fun _ => 0))), (g_7 10, .inl (cs 0, 123, .inl (fun _ => 0))), (g_7 17, .inl (cs 0, 492, .inl (fun _ => 0))), (g_7 18, .inl (cs 0, 4, .inl (fun _ => 0))), (g_7 19, .inl (cs 2, 4, .inl (fun _ => 0)))]) hP hD [17] [0, 1, 2, 3, 4, 5, 6, 7, 8, 9, 10, 11, 12, 13, 14, 15, 16] rfl rfl (by decide) (by decide) hk1 hFc hP1 hD1
  generalize H1 = H at hP hS ⊢
  have hP : va_P D classes [(g_3 0, .inr (11, [.ref (g_3 1), .ref (g_3 2), .ref (g_3 3), .ref (g_3 4), .int 0, .ref (g_3 5), .ref (g_3 6), .ref (g_3 7), .ref (g_3 8), .int 0, .int 0, .ref (g_3 9), .ref (g_3 10), .ref (g_3 11), .ref (g_3 12), .ref (g_3 13), .int 0])), (g_3 1, .inr (7, [.ref (g_3 14), .int 0, .int 0, .int 0])), (g_3 14, .inl (cs 0, 400, .inl (fun _ => 0))), (g_3 2, .inr (0, [.null, .null, .int 0])), (g_3 3, .inr (5, [.null, .ref (g_3 15), .int 0, .int 0])), (g_3 5, .inr (8, [.int 0, .int 0, .int 0, .int 0, .int 0, .int 12, .int 5, .int 1, .int 0, .ref (r_4 0), .ref (r_4 1), .ref (r_4 2), .ref (r_4 3), .ref (r_4 4), .ref (r_4 5), .ref (r_4 6), .ref (r_4 7), .ref (r_4 8)])), (g_3 6, .inr (6, [.int 0, .ref (g_3 16), .ref (g_3 17), .ref (g_3 18), .ref (g_3 19), .ref (g_3 20)])), (g_3 16, .inl (cs 0, 4, .inl (fun _ => 0))), (g_3 17, .inl (cs 0, 4, .inl (fun _ => 0))), (g_3 18, .inl (cs 0, 4, .inl (fun _ => 0))), (g_3 19, .inl (cs 0, 4, .inl (fun _ => 0))), (g_3 20, .inl (cs 0, 8, .inl (fun _ => 0))), (g_3 9, .inr (9, [.int 0, .int 0, .int 0, .ref (g_3 21), .ref (g_3 22), .ref (g_3 23), .ref (g_3 24)])), (g_3 22, .inl (cs 0, 12, .inl (fun _ => 0))), (g_3 23, .inl (cs 0, 12, .inl (fun _ => 0))), (g_3 24, .inl (cs 2, 12, .inl (fun _ => 0))), (g_3 10, .inl (cs 6, 4, .inr (.inr (.inr (.inr (fun _ => none)))))), (g_7 0, .inr (12, [.ref (g_7 1), .int 0, .int 0, .ref (g_7 2), .ref (g_7 3), .ref (g_7 4), .ref (g_7 5), .ref (g_7 6), .int 0, .int 0, .int 0, .int 0, .int 0, .int 0, .int 0, .ref (g_7 7), .int 0, .ref (g_7 8), .int 0, .ref (g_7 9), .ref (g_7 10), .int 0, .ref (g_7 11), .ref (g_7 12), .ref (g_7 13), .int 0, .int 0, .ref (g_7 14), .ref (g_7 15), .int 0, .int 0, .int 0, .ref (g_7 16), .long 0, .ref (g_7 17), .ref (g_7 18), .ref (g_7 19)])), (g_7 1, .inl (cs 1, 400, .inl (fun _ => 0))), (g_7 3, .inl (cs 0, 7, .inl (fun _ => 0))), (g_7 5, .inl (cs 0, 6, .inl (fun _ => 0))), (g_7 6, .inl (cs 0, 86, .inl (fun _ => 0))), (g_7 10, .inl (cs 0, 123, .inl (fun _ => 0))), (g_7 17, .inl (cs 0, 492, .inl (fun _ => 0))), (g_7 18, .inl (cs 0, 4, .inl (fun _ => 0))), (g_7 19, .inl (cs 2, 4, .inl (fun _ => 0)))] H := hP
  have hD : va_D A [(g_3 0, .inr (11, [.ref (g_3 1), .ref (g_3 2), .ref (g_3 3), .ref (g_3 4), .int 0, .ref (g_3 5), .ref (g_3 6), .ref (g_3 7), .ref (g_3 8), .int 0, .int 0, .ref (g_3 9), .ref (g_3 10), .ref (g_3 11), .ref (g_3 12), .ref (g_3 13), .int 0])), (g_3 1, .inr (7, [.ref (g_3 14), .int 0, .int 0, .int 0])), (g_3 14, .inl (cs 0, 400, .inl (fun _ => 0))), (g_3 2, .inr (0, [.null, .null, .int 0])), (g_3 3, .inr (5, [.null, .ref (g_3 15), .int 0, .int 0])), (g_3 5, .inr (8, [.int 0, .int 0, .int 0, .int 0, .int 0, .int 12, .int 5, .int 1, .int 0, .ref (r_4 0), .ref (r_4 1), .ref (r_4 2), .ref (r_4 3), .ref (r_4 4), .ref (r_4 5), .ref (r_4 6), .ref (r_4 7), .ref (r_4 8)])), (g_3 6, .inr (6, [.int 0, .ref (g_3 16), .ref (g_3 17), .ref (g_3 18), .ref (g_3 19), .ref (g_3 20)])), (g_3 16, .inl (cs 0, 4, .inl (fun _ => 0))), (g_3 17, .inl (cs 0, 4, .inl (fun _ => 0))), (g_3 18, .inl (cs 0, 4, .inl (fun _ => 0))), (g_3 19, .inl (cs 0, 4, .inl (fun _ => 0))), (g_3 20, .inl (cs 0, 8, .inl (fun _ => 0))), (g_3 9, .inr (9, [.int 0, .int 0, .int 0, .ref (g_3 21), .ref (g_3 22), .ref (g_3 23), .ref (g_3 24)])), (g_3 22, .inl (cs 0, 12, .inl (fun _ => 0))), (g_3 23, .inl (cs 0, 12, .inl (fun _ => 0))), (g_3 24, .inl (cs 2, 12, .inl (fun _ => 0))), (g_3 10, .inl (cs 6, 4, .inr (.inr (.inr (.inr (fun _ => none)))))), (g_7 0, .inr (12, [.ref (g_7 1), .int 0, .int 0, .ref (g_7 2), .ref (g_7 3), .ref (g_7 4), .ref (g_7 5), .ref (g_7 6), .int 0, .int 0, .int 0, .int 0, .int 0, .int 0, .int 0, .ref (g_7 7), .int 0, .ref (g_7 8), .int 0, .ref (g_7 9), .ref (g_7 10), .int 0, .ref (g_7 11), .ref (g_7 12), .ref (g_7 13), .int 0, .int 0, .ref (g_7 14), .ref (g_7 15), .int 0, .int 0, .int 0, .ref (g_7 16), .long 0, .ref (g_7 17), .ref (g_7 18), .ref (g_7 19)])), (g_7 1, .inl (cs 1, 400, .inl (fun _ => 0))), (g_7 3, .inl (cs 0, 7, .inl (fun _ => 0))), (g_7 5, .inl (cs 0, 6, .inl (fun _ => 0))), (g_7 6, .inl (cs 0, 86, .inl (fun _ => 0))), (g_7 10, .inl (cs 0, 123, .inl (fun _ => 0))), (g_7 17, .inl (cs 0, 492, .inl (fun _ => 0))), (g_7 18, .inl (cs 0, 4, .inl (fun _ => 0))), (g_7 19, .inl (cs 2, 4, .inl (fun _ => 0)))] := hD
  clear hk1 hFc hP1 hD1 hz1
  rw [← eg]
  clear eg
  refine W.widen (k := 186) (n := 28721) (Nat.le_of_ble_eq_true rfl) (Nat.le_of_ble_eq_true rfl) ?_
  refine lv_astore_n (lv' := [(2, .ref (g_7 0)), (1, .ref (g_3 0)), (0, .ref b)]) hx hb dL_law_15 rfl hl (by decide) rfl (fun ls hl => ?_)
  refine lv_iconst (v := 0) hx hb dL_law_16 (by decide) ?_
  refine lv_istore_n (lv' := [(3, .int 0), (2, .ref (g_7 0)), (1, .ref (g_3 0)), (0, .ref b)]) hx hb dL_law_17 rfl hl (by decide) rfl (fun ls hl => ?_)
  refine lv_iload_n hx hb dL_law_18 rfl (lv_at hl 0 rfl) ?_
  refine lv_aload_n hx hb dL_law_19 rfl (lv_at hl 3 rfl) ?_
  refine va_slen hx hb hX hbl hbA hS dL_law_20 ?_
  refine hz_ev 6 (by decide) ?_
  refine lv_bipush (v := 6) hx hb dL_law_21 (by decide) ?_
  refine lv_isub hx hb dL_law_23 ?_
  refine hz_ev 0 (by decide) ?_
  refine lv_icmp_gt (tgt := 1143) hx hb dL_law_24 (by decide) (fun z => absurd z (by decide)) (fun _ => ?_)
  refine lv_aload_n hx hb dL_law_27 rfl (lv_at hl 3 rfl) ?_
  refine lv_iload_n hx hb dL_law_28 rfl (lv_at hl 0 rfl) ?_
  refine va_sld hx hb hX hbl hbA hS (by unfold vp_in; decide) dL_law_29 ?_
  refine hz_ev (xs 0) rfl ?_
  refine lv_bipush (v := 31) hx hb dL_law_30 (by decide) ?_
  refine lv_iand hx hb dL_law_32 ?_
  refine lv_topi (fun y_8 ey_8 => ?_)
  by_cases c_9 : y_8.toInt < 0 ∨ 28 < y_8.toInt
  · refine lv_tableOut (tgt := 1137) hx hb dL_law_33 c_9 (by decide) ?_
    refine lv_iinc (v := 6) (lv' := [(3, .int 6), (2, .ref (g_7 0)), (1, .ref (g_3 0)), (0, .ref b)]) hx hb dL_law_1137 hl (k := 0) rfl (by decide) (by decide) rfl (fun ls hl => ?_)
    refine lv_goto (tgt := 18) hx hb dL_law_1140 (by decide) ?_
    refine lv_iload_n hx hb dL_law_18 rfl (lv_at hl 0 rfl) ?_
    refine lv_aload_n hx hb dL_law_19 rfl (lv_at hl 3 rfl) ?_
    refine va_slen hx hb hX hbl hbA hS dL_law_20 ?_
    refine hz_ev 6 (by decide) ?_
    refine lv_bipush (v := 6) hx hb dL_law_21 (by decide) ?_
    refine lv_isub hx hb dL_law_23 ?_
    refine hz_ev 0 (by decide) ?_
    refine lv_icmp_gt (tgt := 1143) hx hb dL_law_24 (by decide) (fun _ => ?_) (fun z => absurd (by decide) z)
    refine lv_iconst (v := 1) hx hb dL_law_1143 (by decide) ?_
    refine va_forget (fun q hq => by have h9 := hS.2.2 q hq; rw [hAe] at h9; exact h9) ?_
    refine W.widen (k := 600000) (n := 7302250) (Nat.le_of_ble_eq_true rfl) (Nat.le_of_ble_eq_true rfl) ?_
    exact lw_ret hx hb hr hlocks dL_law_1144
  · rcases hz_sw28 c_9 with rfl | rfl | rfl | rfl | rfl | rfl | rfl | rfl | rfl | rfl | rfl | rfl | rfl | rfl | rfl | rfl | rfl | rfl | rfl | rfl | rfl | rfl | rfl | rfl | rfl | rfl | rfl | rfl | rfl
    · refine lv_tableIn (off := 131) (tgt := 164) hx hb dL_law_33 (by decide) (by decide) (by decide) (by decide) ?_
      refine lv_aload_n hx hb dL_law_164 rfl (lv_at hl 2 rfl) ?_
      refine lv_aload_n hx hb dL_law_165 rfl (lv_at hl 3 rfl) ?_
      refine lv_iload_n hx hb dL_law_166 rfl (lv_at hl 0 rfl) ?_
      refine lv_iconst (v := 1) hx hb dL_law_167 (by decide) ?_
      refine lv_iadd hx hb dL_law_168 ?_
      refine hz_ev 1 (by decide) ?_
      refine va_sld hx hb hX hbl hbA hS (by unfold vp_in; decide) dL_law_169 ?_
      refine hz_ev (xs 1) rfl ?_
      refine lv_aload_n hx hb dL_law_170 rfl (lv_at hl 3 rfl) ?_
      refine lv_iload_n hx hb dL_law_171 rfl (lv_at hl 0 rfl) ?_
      refine lv_iconst (v := 2) hx hb dL_law_172 (by decide) ?_
      refine lv_iadd hx hb dL_law_173 ?_
      refine hz_ev 2 (by decide) ?_
      refine va_sld hx hb hX hbl hbA hS (by unfold vp_in; decide) dL_law_174 ?_
      refine hz_ev (xs 2) rfl ?_
      refine lv_aload_n hx hb dL_law_175 rfl (lv_at hl 3 rfl) ?_
      refine lv_iload_n hx hb dL_law_176 rfl (lv_at hl 0 rfl) ?_
      refine lv_iconst (v := 3) hx hb dL_law_177 (by decide) ?_
      refine lv_iadd hx hb dL_law_178 ?_
      refine hz_ev 3 (by decide) ?_
      refine va_sld hx hb hX hbl hbA hS (by unfold vp_in; decide) dL_law_179 ?_
      refine hz_ev (xs 3) rfl ?_
      refine lv_aload_n hx hb dL_law_180 rfl (lv_at hl 3 rfl) ?_
      refine lv_iload_n hx hb dL_law_181 rfl (lv_at hl 0 rfl) ?_
      refine lv_iconst (v := 4) hx hb dL_law_182 (by decide) ?_
      refine lv_iadd hx hb dL_law_183 ?_
      refine hz_ev 4 (by decide) ?_
      refine va_sld hx hb hX hbl hbA hS (by unfold vp_in; decide) dL_law_184 ?_
      refine hz_ev (xs 4) rfl ?_
      refine lv_aload_n hx hb dL_law_185 rfl (lv_at hl 3 rfl) ?_
      refine lv_iload_n hx hb dL_law_186 rfl (lv_at hl 0 rfl) ?_
      refine lv_iconst (v := 5) hx hb dL_law_187 (by decide) ?_
      refine lv_iadd hx hb dL_law_188 ?_
      refine hz_ev 5 (by decide) ?_
      refine va_sld hx hb hX hbl hbA hS (by unfold vp_in; decide) dL_law_189 ?_
      refine hz_ev (xs 5) rfl ?_
      have hFc := va_free (wc := [(g_3 0, .inr (11, [.ref (g_3 1), .ref (g_3 2), .ref (g_3 3), .ref (g_3 4), .int 0, .ref (g_3 5), .ref (g_3 6), .ref (g_3 7), .ref (g_3 8), .int 0, .int 0, .ref (g_3 9), .ref (g_3 10), .ref (g_3 11), .ref (g_3 12), .ref (g_3 13), .int 0])), (g_3 1, .inr (7, [.ref (g_3 14), .int 0, .int 0, .int 0])), (g_3 14, .inl (cs 0, 400, .inl (fun _ => 0)))]) hD hS hA [0,1,2] rfl
      refine va_calli (va_runV (As := [.int (xs 1), .int (xs 2), .int (xs 3), .int (xs 4), .int (xs 5)]) (rest := []) ⟨hx, hb, hml, hown, hT⟩ (c_X11_feed l D cs kK kV g_3 r_4 (xs 1) (xs 2) (xs 3) (xs 4) (xs 5) H.size) (cwV 5 hT (hz_gV q_403 q_404 q_405 q_174 q_406) rfl rfl rfl (by decide +kernel) ⟨(Nat.le_of_ble_eq_true rfl), (Nat.le_of_ble_eq_true rfl)⟩) ⟨hz_C.blind, va_recv hK hP (ci := 11) (q0 := 0) rfl rfl, hz_C.mk (hP.sub (ws' := [(g_3 0, .inr (11, [.ref (g_3 1), .ref (g_3 2), .ref (g_3 3), .ref (g_3 4), .int 0, .ref (g_3 5), .ref (g_3 6), .ref (g_3 7), .ref (g_3 8), .int 0, .int 0, .ref (g_3 9), .ref (g_3 10), .ref (g_3 11), .ref (g_3 12), .ref (g_3 13), .int 0])), (g_3 1, .inr (7, [.ref (g_3 14), .int 0, .int 0, .int 0])), (g_3 14, .inl (cs 0, 400, .inl (fun _ => 0)))]) [0,1,2] rfl) (hD.sub (ws' := [(g_3 0, .inr (11, [.ref (g_3 1), .ref (g_3 2), .ref (g_3 3), .ref (g_3 4), .int 0, .ref (g_3 5), .ref (g_3 6), .ref (g_3 7), .ref (g_3 8), .int 0, .int 0, .ref (g_3 9), .ref (g_3 10), .ref (g_3 11), .ref (g_3 12), .ref (g_3 13), .int 0])), (g_3 1, .inr (7, [.ref (g_3 14), .int 0, .int 0, .int 0])), (g_3 14, .inl (cs 0, 400, .inl (fun _ => 0)))]) [0,1,2] (by decide) rfl) hE hS hFc⟩ rfl rfl hl.1 rfl (lv_room (Nat.le_of_ble_eq_true rfl)) dL_law_190 ⟨(Nat.le_of_ble_eq_true rfl), (Nat.le_of_ble_eq_true rfl)⟩) hS (fun q _ h => hFc q h) hFc (fun r_10 u t H1 locs ht hvm hw hB hz1 hk1 hS => ?_)
      obtain ⟨hP, hD⟩ := va_join (wr := [(g_7 0, .inr (12, [.ref (g_7 1), .int 0, .int 0, .ref (g_7 2), .ref (g_7 3), .ref (g_7 4), .ref (g_7 5), .ref (g_7 6), .int 0, .int 0, .int 0, .int 0, .int 0, .int 0, .int 0, .ref (g_7 7), .int 0, .ref (g_7 8), .int 0, .ref (g_7 9), .ref (g_7 10), .int 0, .ref (g_7 11), .ref (g_7 12), .ref (g_7 13), .int 0, .int 0, .ref (g_7 14), .ref (g_7 15), .int 0, .int 0, .int 0, .ref (g_7 16), .long 0, .ref (g_7 17), .ref (g_7 18), .ref (g_7 19)])), (g_7 1, .inl (cs 1, 400, .inl (fun _ => 0))), (g_7 3, .inl (cs 0, 7, .inl (fun _ => 0))), (g_7 5, .inl (cs 0, 6, .inl (fun _ => 0))), (g_7 6, .inl (cs 0, 86, .inl (fun _ => 0))), (g_7 10, .inl (cs 0, 123, .inl (fun _ => 0))), (g_7 17, .inl (cs 0, 492, .inl (fun _ => 0))), (g_7 18, .inl (cs 0, 4, .inl (fun _ => 0))), (g_7 19, .inl (cs 2, 4, .inl (fun _ => 0)))]) (w1 := []) hP hD [0, 1, 2] [17, 18, 19, 20, 21, 22, 23, 24, 25] rfl rfl (by decide) (by decide) hk1 hFc hz_P0 hz_D0
      generalize H1 = H at hP hS ⊢
      have hP : va_P D classes [(g_7 0, .inr (12, [.ref (g_7 1), .int 0, .int 0, .ref (g_7 2), .ref (g_7 3), .ref (g_7 4), .ref (g_7 5), .ref (g_7 6), .int 0, .int 0, .int 0, .int 0, .int 0, .int 0, .int 0, .ref (g_7 7), .int 0, .ref (g_7 8), .int 0, .ref (g_7 9), .ref (g_7 10), .int 0, .ref (g_7 11), .ref (g_7 12), .ref (g_7 13), .int 0, .int 0, .ref (g_7 14), .ref (g_7 15), .int 0, .int 0, .int 0, .ref (g_7 16), .long 0, .ref (g_7 17), .ref (g_7 18), .ref (g_7 19)])), (g_7 1, .inl (cs 1, 400, .inl (fun _ => 0))), (g_7 3, .inl (cs 0, 7, .inl (fun _ => 0))), (g_7 5, .inl (cs 0, 6, .inl (fun _ => 0))), (g_7 6, .inl (cs 0, 86, .inl (fun _ => 0))), (g_7 10, .inl (cs 0, 123, .inl (fun _ => 0))), (g_7 17, .inl (cs 0, 492, .inl (fun _ => 0))), (g_7 18, .inl (cs 0, 4, .inl (fun _ => 0))), (g_7 19, .inl (cs 2, 4, .inl (fun _ => 0)))] H := hP
      have hD : va_D A [(g_7 0, .inr (12, [.ref (g_7 1), .int 0, .int 0, .ref (g_7 2), .ref (g_7 3), .ref (g_7 4), .ref (g_7 5), .ref (g_7 6), .int 0, .int 0, .int 0, .int 0, .int 0, .int 0, .int 0, .ref (g_7 7), .int 0, .ref (g_7 8), .int 0, .ref (g_7 9), .ref (g_7 10), .int 0, .ref (g_7 11), .ref (g_7 12), .ref (g_7 13), .int 0, .int 0, .ref (g_7 14), .ref (g_7 15), .int 0, .int 0, .int 0, .ref (g_7 16), .long 0, .ref (g_7 17), .ref (g_7 18), .ref (g_7 19)])), (g_7 1, .inl (cs 1, 400, .inl (fun _ => 0))), (g_7 3, .inl (cs 0, 7, .inl (fun _ => 0))), (g_7 5, .inl (cs 0, 6, .inl (fun _ => 0))), (g_7 6, .inl (cs 0, 86, .inl (fun _ => 0))), (g_7 10, .inl (cs 0, 123, .inl (fun _ => 0))), (g_7 17, .inl (cs 0, 492, .inl (fun _ => 0))), (g_7 18, .inl (cs 0, 4, .inl (fun _ => 0))), (g_7 19, .inl (cs 2, 4, .inl (fun _ => 0)))] := hD
      clear hk1 hFc hz1
      subst hw
      refine lv_aload_n hx hb dL_law_193 rfl (lv_at hl 1 rfl) ?_
      refine lv_aload_n hx hb dL_law_194 rfl (lv_at hl 3 rfl) ?_
      refine lv_iload_n hx hb dL_law_195 rfl (lv_at hl 0 rfl) ?_
      refine lv_iconst (v := 1) hx hb dL_law_196 (by decide) ?_
      refine lv_iadd hx hb dL_law_197 ?_
      refine hz_ev 1 (by decide) ?_
      refine va_sld hx hb hX hbl hbA hS (by unfold vp_in; decide) dL_law_198 ?_
      refine hz_ev (xs 1) rfl ?_
      refine lv_aload_n hx hb dL_law_199 rfl (lv_at hl 3 rfl) ?_
      refine lv_iload_n hx hb dL_law_200 rfl (lv_at hl 0 rfl) ?_
      refine lv_iconst (v := 2) hx hb dL_law_201 (by decide) ?_
      refine lv_iadd hx hb dL_law_202 ?_
      refine hz_ev 2 (by decide) ?_
      refine va_sld hx hb hX hbl hbA hS (by unfold vp_in; decide) dL_law_203 ?_
      refine hz_ev (xs 2) rfl ?_
      refine lv_aload_n hx hb dL_law_204 rfl (lv_at hl 3 rfl) ?_
      refine lv_iload_n hx hb dL_law_205 rfl (lv_at hl 0 rfl) ?_
      refine lv_iconst (v := 3) hx hb dL_law_206 (by decide) ?_
      refine lv_iadd hx hb dL_law_207 ?_
      refine hz_ev 3 (by decide) ?_
      refine va_sld hx hb hX hbl hbA hS (by unfold vp_in; decide) dL_law_208 ?_
      refine hz_ev (xs 3) rfl ?_
      refine lv_aload_n hx hb dL_law_209 rfl (lv_at hl 3 rfl) ?_
      refine lv_iload_n hx hb dL_law_210 rfl (lv_at hl 0 rfl) ?_
      refine lv_iconst (v := 4) hx hb dL_law_211 (by decide) ?_
      refine lv_iadd hx hb dL_law_212 ?_
      refine hz_ev 4 (by decide) ?_
      refine va_sld hx hb hX hbl hbA hS (by unfold vp_in; decide) dL_law_213 ?_
      refine hz_ev (xs 4) rfl ?_
      refine lv_aload_n hx hb dL_law_214 rfl (lv_at hl 3 rfl) ?_
      refine lv_iload_n hx hb dL_law_215 rfl (lv_at hl 0 rfl) ?_
      refine lv_iconst (v := 5) hx hb dL_law_216 (by decide) ?_
      refine lv_iadd hx hb dL_law_217 ?_
      refine hz_ev 5 (by decide) ?_
      refine va_sld hx hb hX hbl hbA hS (by unfold vp_in; decide) dL_law_218 ?_
      refine hz_ev (xs 5) rfl ?_
      have hFc := va_free (wc := [(g_7 0, .inr (12, [.ref (g_7 1), .int 0, .int 0, .ref (g_7 2), .ref (g_7 3), .ref (g_7 4), .ref (g_7 5), .ref (g_7 6), .int 0, .int 0, .int 0, .int 0, .int 0, .int 0, .int 0, .ref (g_7 7), .int 0, .ref (g_7 8), .int 0, .ref (g_7 9), .ref (g_7 10), .int 0, .ref (g_7 11), .ref (g_7 12), .ref (g_7 13), .int 0, .int 0, .ref (g_7 14), .ref (g_7 15), .int 0, .int 0, .int 0, .ref (g_7 16), .long 0, .ref (g_7 17), .ref (g_7 18), .ref (g_7 19)])), (g_7 1, .inl (cs 1, 400, .inl (fun _ => 0)))]) hD hS hA [0,1] rfl
      refine va_calli (va_runV (As := [.int (xs 1), .int (xs 2), .int (xs 3), .int (xs 4), .int (xs 5)]) (rest := [.int 20]) ⟨hx, hb, hml, hown, hT⟩ (c_X12_feed l D cs kK kV g_7 (xs 1) (xs 2) (xs 3) (xs 4) (xs 5) H.size) (cwV 5 hT (hz_gV q_407 q_408 q_409 q_252 q_410) rfl rfl rfl (by decide +kernel) ⟨(Nat.le_of_ble_eq_true rfl), (Nat.le_of_ble_eq_true rfl)⟩) ⟨hz_C.blind, va_recv hK hP (ci := 12) (q0 := 0) rfl rfl, hz_C.mk (hP.sub (ws' := [(g_7 0, .inr (12, [.ref (g_7 1), .int 0, .int 0, .ref (g_7 2), .ref (g_7 3), .ref (g_7 4), .ref (g_7 5), .ref (g_7 6), .int 0, .int 0, .int 0, .int 0, .int 0, .int 0, .int 0, .ref (g_7 7), .int 0, .ref (g_7 8), .int 0, .ref (g_7 9), .ref (g_7 10), .int 0, .ref (g_7 11), .ref (g_7 12), .ref (g_7 13), .int 0, .int 0, .ref (g_7 14), .ref (g_7 15), .int 0, .int 0, .int 0, .ref (g_7 16), .long 0, .ref (g_7 17), .ref (g_7 18), .ref (g_7 19)])), (g_7 1, .inl (cs 1, 400, .inl (fun _ => 0)))]) [0,1] rfl) (hD.sub (ws' := [(g_7 0, .inr (12, [.ref (g_7 1), .int 0, .int 0, .ref (g_7 2), .ref (g_7 3), .ref (g_7 4), .ref (g_7 5), .ref (g_7 6), .int 0, .int 0, .int 0, .int 0, .int 0, .int 0, .int 0, .ref (g_7 7), .int 0, .ref (g_7 8), .int 0, .ref (g_7 9), .ref (g_7 10), .int 0, .ref (g_7 11), .ref (g_7 12), .ref (g_7 13), .int 0, .int 0, .ref (g_7 14), .ref (g_7 15), .int 0, .int 0, .int 0, .ref (g_7 16), .long 0, .ref (g_7 17), .ref (g_7 18), .ref (g_7 19)])), (g_7 1, .inl (cs 1, 400, .inl (fun _ => 0)))]) [0,1] (by decide) rfl) hE hS hFc⟩ rfl rfl hl.1 rfl (lv_room (Nat.le_of_ble_eq_true rfl)) dL_law_219 ⟨(Nat.le_of_ble_eq_true rfl), (Nat.le_of_ble_eq_true rfl)⟩) hS (fun q _ h => hFc q h) hFc (fun r_11 u t H1 locs ht hvm hw hB hz1 hk1 hS => ?_)
      obtain ⟨hP, hD⟩ := va_join (wr := [(g_7 3, .inl (cs 0, 7, .inl (fun _ => 0))), (g_7 5, .inl (cs 0, 6, .inl (fun _ => 0))), (g_7 6, .inl (cs 0, 86, .inl (fun _ => 0))), (g_7 10, .inl (cs 0, 123, .inl (fun _ => 0))), (g_7 17, .inl (cs 0, 492, .inl (fun _ => 0))), (g_7 18, .inl (cs 0, 4, .inl (fun _ => 0))), (g_7 19, .inl (cs 2, 4, .inl (fun _ => 0)))]) (w1 := []) hP hD [0, 1] [2, 3, 4, 5, 6, 7, 8] rfl rfl (by decide) (by decide) hk1 hFc hz_P0 hz_D0
      generalize H1 = H at hP hS ⊢
      have hP : va_P D classes [(g_7 3, .inl (cs 0, 7, .inl (fun _ => 0))), (g_7 5, .inl (cs 0, 6, .inl (fun _ => 0))), (g_7 6, .inl (cs 0, 86, .inl (fun _ => 0))), (g_7 10, .inl (cs 0, 123, .inl (fun _ => 0))), (g_7 17, .inl (cs 0, 492, .inl (fun _ => 0))), (g_7 18, .inl (cs 0, 4, .inl (fun _ => 0))), (g_7 19, .inl (cs 2, 4, .inl (fun _ => 0)))] H := hP
      have hD : va_D A [(g_7 3, .inl (cs 0, 7, .inl (fun _ => 0))), (g_7 5, .inl (cs 0, 6, .inl (fun _ => 0))), (g_7 6, .inl (cs 0, 86, .inl (fun _ => 0))), (g_7 10, .inl (cs 0, 123, .inl (fun _ => 0))), (g_7 17, .inl (cs 0, 492, .inl (fun _ => 0))), (g_7 18, .inl (cs 0, 4, .inl (fun _ => 0))), (g_7 19, .inl (cs 2, 4, .inl (fun _ => 0)))] := hD
      clear hk1 hFc hz1
      subst hw
      refine lv_icmp_eq (tgt := 1137) hx hb dL_law_222 (by decide) (fun _ => ?_) (fun z => absurd (by decide) z)
      refine lv_iinc (v := 6) (lv' := [(3, .int 6), (2, .ref (g_7 0)), (1, .ref (g_3 0)), (0, .ref b)]) hx hb dL_law_1137 hl (k := 0) rfl (by decide) (by decide) rfl (fun ls hl => ?_)
      refine lv_goto (tgt := 18) hx hb dL_law_1140 (by decide) ?_
      refine lv_iload_n hx hb dL_law_18 rfl (lv_at hl 0 rfl) ?_
      refine lv_aload_n hx hb dL_law_19 rfl (lv_at hl 3 rfl) ?_
      refine va_slen hx hb hX hbl hbA hS dL_law_20 ?_
      refine hz_ev 6 (by decide) ?_
      refine lv_bipush (v := 6) hx hb dL_law_21 (by decide) ?_
      refine lv_isub hx hb dL_law_23 ?_
      refine hz_ev 0 (by decide) ?_
      refine lv_icmp_gt (tgt := 1143) hx hb dL_law_24 (by decide) (fun _ => ?_) (fun z => absurd (by decide) z)
      refine lv_iconst (v := 1) hx hb dL_law_1143 (by decide) ?_
      refine va_forget (fun q hq => by have h9 := hS.2.2 q hq; rw [hAe] at h9; exact h9) ?_
      refine W.widen (k := 600000) (n := 7302250) (Nat.le_of_ble_eq_true rfl) (Nat.le_of_ble_eq_true rfl) ?_
      exact lw_ret hx hb hr hlocks dL_law_1144
    · refine lv_tableIn (off := 194) (tgt := 227) hx hb dL_law_33 (by decide) (by decide) (by decide) (by decide) ?_
      refine lv_aload_n hx hb dL_law_227 rfl (lv_at hl 2 rfl) ?_
      refine lv_aload_n hx hb dL_law_228 rfl (lv_at hl 3 rfl) ?_
      refine lv_iload_n hx hb dL_law_229 rfl (lv_at hl 0 rfl) ?_
      refine lv_iconst (v := 1) hx hb dL_law_230 (by decide) ?_
      refine lv_iadd hx hb dL_law_231 ?_
      refine hz_ev 1 (by decide) ?_
      refine va_sld hx hb hX hbl hbA hS (by unfold vp_in; decide) dL_law_232 ?_
      refine hz_ev (xs 1) rfl ?_
      have hFc := va_free (wc := [(g_3 0, .inr (11, [.ref (g_3 1), .ref (g_3 2), .ref (g_3 3), .ref (g_3 4), .int 0, .ref (g_3 5), .ref (g_3 6), .ref (g_3 7), .ref (g_3 8), .int 0, .int 0, .ref (g_3 9), .ref (g_3 10), .ref (g_3 11), .ref (g_3 12), .ref (g_3 13), .int 0])), (g_3 1, .inr (7, [.ref (g_3 14), .int 0, .int 0, .int 0]))]) hD hS hA [0,1] rfl
      refine va_calli (va_runV (As := [.int (xs 1)]) (rest := []) ⟨hx, hb, hml, hown, hT⟩ (c_X11_end l D cs kK kV g_3 r_4 (xs 1) H.size) (cwV 1 hT (hz_gV q_411 q_412 q_413 q_174 q_414) rfl rfl rfl (by decide +kernel) ⟨(Nat.le_of_ble_eq_true rfl), (Nat.le_of_ble_eq_true rfl)⟩) ⟨hz_C.blind, va_recv hK hP (ci := 11) (q0 := 0) rfl rfl, hz_C.mk (hP.sub (ws' := [(g_3 0, .inr (11, [.ref (g_3 1), .ref (g_3 2), .ref (g_3 3), .ref (g_3 4), .int 0, .ref (g_3 5), .ref (g_3 6), .ref (g_3 7), .ref (g_3 8), .int 0, .int 0, .ref (g_3 9), .ref (g_3 10), .ref (g_3 11), .ref (g_3 12), .ref (g_3 13), .int 0])), (g_3 1, .inr (7, [.ref (g_3 14), .int 0, .int 0, .int 0]))]) [0,1] rfl) (hD.sub (ws' := [(g_3 0, .inr (11, [.ref (g_3 1), .ref (g_3 2), .ref (g_3 3), .ref (g_3 4), .int 0, .ref (g_3 5), .ref (g_3 6), .ref (g_3 7), .ref (g_3 8), .int 0, .int 0, .ref (g_3 9), .ref (g_3 10), .ref (g_3 11), .ref (g_3 12), .ref (g_3 13), .int 0])), (g_3 1, .inr (7, [.ref (g_3 14), .int 0, .int 0, .int 0]))]) [0,1] (by decide) rfl) hE hS hFc⟩ rfl rfl hl.1 rfl (lv_room (Nat.le_of_ble_eq_true rfl)) dL_law_233 ⟨(Nat.le_of_ble_eq_true rfl), (Nat.le_of_ble_eq_true rfl)⟩) hS (fun q _ h => hFc q h) hFc (fun r_12 u t H1 locs ht hvm hw hB hz1 hk1 hS => ?_)
      obtain ⟨hP, hD⟩ := va_join (wr := [(g_7 0, .inr (12, [.ref (g_7 1), .int 0, .int 0, .ref (g_7 2), .ref (g_7 3), .ref (g_7 4), .ref (g_7 5), .ref (g_7 6), .int 0, .int 0, .int 0, .int 0, .int 0, .int 0, .int 0, .ref (g_7 7), .int 0, .ref (g_7 8), .int 0, .ref (g_7 9), .ref (g_7 10), .int 0, .ref (g_7 11), .ref (g_7 12), .ref (g_7 13), .int 0, .int 0, .ref (g_7 14), .ref (g_7 15), .int 0, .int 0, .int 0, .ref (g_7 16), .long 0, .ref (g_7 17), .ref (g_7 18), .ref (g_7 19)])), (g_7 1, .inl (cs 1, 400, .inl (fun _ => 0))), (g_7 3, .inl (cs 0, 7, .inl (fun _ => 0))), (g_7 5, .inl (cs 0, 6, .inl (fun _ => 0))), (g_7 6, .inl (cs 0, 86, .inl (fun _ => 0))), (g_7 10, .inl (cs 0, 123, .inl (fun _ => 0))), (g_7 17, .inl (cs 0, 492, .inl (fun _ => 0))), (g_7 18, .inl (cs 0, 4, .inl (fun _ => 0))), (g_7 19, .inl (cs 2, 4, .inl (fun _ => 0)))]) (w1 := []) hP hD [0, 1] [17, 18, 19, 20, 21, 22, 23, 24, 25] rfl rfl (by decide) (by decide) hk1 hFc hz_P0 hz_D0
      generalize H1 = H at hP hS ⊢
      have hP : va_P D classes [(g_7 0, .inr (12, [.ref (g_7 1), .int 0, .int 0, .ref (g_7 2), .ref (g_7 3), .ref (g_7 4), .ref (g_7 5), .ref (g_7 6), .int 0, .int 0, .int 0, .int 0, .int 0, .int 0, .int 0, .ref (g_7 7), .int 0, .ref (g_7 8), .int 0, .ref (g_7 9), .ref (g_7 10), .int 0, .ref (g_7 11), .ref (g_7 12), .ref (g_7 13), .int 0, .int 0, .ref (g_7 14), .ref (g_7 15), .int 0, .int 0, .int 0, .ref (g_7 16), .long 0, .ref (g_7 17), .ref (g_7 18), .ref (g_7 19)])), (g_7 1, .inl (cs 1, 400, .inl (fun _ => 0))), (g_7 3, .inl (cs 0, 7, .inl (fun _ => 0))), (g_7 5, .inl (cs 0, 6, .inl (fun _ => 0))), (g_7 6, .inl (cs 0, 86, .inl (fun _ => 0))), (g_7 10, .inl (cs 0, 123, .inl (fun _ => 0))), (g_7 17, .inl (cs 0, 492, .inl (fun _ => 0))), (g_7 18, .inl (cs 0, 4, .inl (fun _ => 0))), (g_7 19, .inl (cs 2, 4, .inl (fun _ => 0)))] H := hP
      have hD : va_D A [(g_7 0, .inr (12, [.ref (g_7 1), .int 0, .int 0, .ref (g_7 2), .ref (g_7 3), .ref (g_7 4), .ref (g_7 5), .ref (g_7 6), .int 0, .int 0, .int 0, .int 0, .int 0, .int 0, .int 0, .ref (g_7 7), .int 0, .ref (g_7 8), .int 0, .ref (g_7 9), .ref (g_7 10), .int 0, .ref (g_7 11), .ref (g_7 12), .ref (g_7 13), .int 0, .int 0, .ref (g_7 14), .ref (g_7 15), .int 0, .int 0, .int 0, .ref (g_7 16), .long 0, .ref (g_7 17), .ref (g_7 18), .ref (g_7 19)])), (g_7 1, .inl (cs 1, 400, .inl (fun _ => 0))), (g_7 3, .inl (cs 0, 7, .inl (fun _ => 0))), (g_7 5, .inl (cs 0, 6, .inl (fun _ => 0))), (g_7 6, .inl (cs 0, 86, .inl (fun _ => 0))), (g_7 10, .inl (cs 0, 123, .inl (fun _ => 0))), (g_7 17, .inl (cs 0, 492, .inl (fun _ => 0))), (g_7 18, .inl (cs 0, 4, .inl (fun _ => 0))), (g_7 19, .inl (cs 2, 4, .inl (fun _ => 0)))] := hD
      clear hk1 hFc hz1
      subst hw
      refine lv_aload_n hx hb dL_law_236 rfl (lv_at hl 1 rfl) ?_
      refine lv_aload_n hx hb dL_law_237 rfl (lv_at hl 3 rfl) ?_
      refine lv_iload_n hx hb dL_law_238 rfl (lv_at hl 0 rfl) ?_
      refine lv_iconst (v := 1) hx hb dL_law_239 (by decide) ?_
      refine lv_iadd hx hb dL_law_240 ?_
      refine hz_ev 1 (by decide) ?_
      refine va_sld hx hb hX hbl hbA hS (by unfold vp_in; decide) dL_law_241 ?_
      refine hz_ev (xs 1) rfl ?_
      have hFc := va_free (wc := [(g_7 0, .inr (12, [.ref (g_7 1), .int 0, .int 0, .ref (g_7 2), .ref (g_7 3), .ref (g_7 4), .ref (g_7 5), .ref (g_7 6), .int 0, .int 0, .int 0, .int 0, .int 0, .int 0, .int 0, .ref (g_7 7), .int 0, .ref (g_7 8), .int 0, .ref (g_7 9), .ref (g_7 10), .int 0, .ref (g_7 11), .ref (g_7 12), .ref (g_7 13), .int 0, .int 0, .ref (g_7 14), .ref (g_7 15), .int 0, .int 0, .int 0, .ref (g_7 16), .long 0, .ref (g_7 17), .ref (g_7 18), .ref (g_7 19)]))]) hD hS hA [0] rfl
      refine va_calli (va_runV (As := [.int (xs 1)]) (rest := [.int (hz_end (xs 1))]) ⟨hx, hb, hml, hown, hT⟩ (c_X12_end l D cs kK kV g_7 (xs 1) H.size) (cwV 1 hT (hz_gV q_415 q_416 q_417 q_252 q_418) rfl rfl rfl (by decide +kernel) ⟨(Nat.le_of_ble_eq_true rfl), (Nat.le_of_ble_eq_true rfl)⟩) ⟨hz_C.blind, va_recv hK hP (ci := 12) (q0 := 0) rfl rfl, hz_C.mk (hP.sub (ws' := [(g_7 0, .inr (12, [.ref (g_7 1), .int 0, .int 0, .ref (g_7 2), .ref (g_7 3), .ref (g_7 4), .ref (g_7 5), .ref (g_7 6), .int 0, .int 0, .int 0, .int 0, .int 0, .int 0, .int 0, .ref (g_7 7), .int 0, .ref (g_7 8), .int 0, .ref (g_7 9), .ref (g_7 10), .int 0, .ref (g_7 11), .ref (g_7 12), .ref (g_7 13), .int 0, .int 0, .ref (g_7 14), .ref (g_7 15), .int 0, .int 0, .int 0, .ref (g_7 16), .long 0, .ref (g_7 17), .ref (g_7 18), .ref (g_7 19)]))]) [0] rfl) (hD.sub (ws' := [(g_7 0, .inr (12, [.ref (g_7 1), .int 0, .int 0, .ref (g_7 2), .ref (g_7 3), .ref (g_7 4), .ref (g_7 5), .ref (g_7 6), .int 0, .int 0, .int 0, .int 0, .int 0, .int 0, .int 0, .ref (g_7 7), .int 0, .ref (g_7 8), .int 0, .ref (g_7 9), .ref (g_7 10), .int 0, .ref (g_7 11), .ref (g_7 12), .ref (g_7 13), .int 0, .int 0, .ref (g_7 14), .ref (g_7 15), .int 0, .int 0, .int 0, .ref (g_7 16), .long 0, .ref (g_7 17), .ref (g_7 18), .ref (g_7 19)]))]) [0] (by decide) rfl) hE hS hFc⟩ rfl rfl hl.1 rfl (lv_room (Nat.le_of_ble_eq_true rfl)) dL_law_242 ⟨(Nat.le_of_ble_eq_true rfl), (Nat.le_of_ble_eq_true rfl)⟩) hS (fun q _ h => hFc q h) hFc (fun r_13 u t H1 locs ht hvm hw hB hz1 hk1 hS => ?_)
      obtain ⟨hP, hD⟩ := va_join (wr := [(g_7 1, .inl (cs 1, 400, .inl (fun _ => 0))), (g_7 3, .inl (cs 0, 7, .inl (fun _ => 0))), (g_7 5, .inl (cs 0, 6, .inl (fun _ => 0))), (g_7 6, .inl (cs 0, 86, .inl (fun _ => 0))), (g_7 10, .inl (cs 0, 123, .inl (fun _ => 0))), (g_7 17, .inl (cs 0, 492, .inl (fun _ => 0))), (g_7 18, .inl (cs 0, 4, .inl (fun _ => 0))), (g_7 19, .inl (cs 2, 4, .inl (fun _ => 0)))]) (w1 := []) hP hD [0] [1, 2, 3, 4, 5, 6, 7, 8] rfl rfl (by decide) (by decide) hk1 hFc hz_P0 hz_D0
      generalize H1 = H at hP hS ⊢
      have hP : va_P D classes [(g_7 1, .inl (cs 1, 400, .inl (fun _ => 0))), (g_7 3, .inl (cs 0, 7, .inl (fun _ => 0))), (g_7 5, .inl (cs 0, 6, .inl (fun _ => 0))), (g_7 6, .inl (cs 0, 86, .inl (fun _ => 0))), (g_7 10, .inl (cs 0, 123, .inl (fun _ => 0))), (g_7 17, .inl (cs 0, 492, .inl (fun _ => 0))), (g_7 18, .inl (cs 0, 4, .inl (fun _ => 0))), (g_7 19, .inl (cs 2, 4, .inl (fun _ => 0)))] H := hP
      have hD : va_D A [(g_7 1, .inl (cs 1, 400, .inl (fun _ => 0))), (g_7 3, .inl (cs 0, 7, .inl (fun _ => 0))), (g_7 5, .inl (cs 0, 6, .inl (fun _ => 0))), (g_7 6, .inl (cs 0, 86, .inl (fun _ => 0))), (g_7 10, .inl (cs 0, 123, .inl (fun _ => 0))), (g_7 17, .inl (cs 0, 492, .inl (fun _ => 0))), (g_7 18, .inl (cs 0, 4, .inl (fun _ => 0))), (g_7 19, .inl (cs 2, 4, .inl (fun _ => 0)))] := hD
      clear hk1 hFc hz1
      subst hw
      refine lv_icmp_eq (tgt := 1137) hx hb dL_law_245 (by decide) (fun _ => ?_) (fun z => absurd rfl z)
      refine lv_iinc (v := 6) (lv' := [(3, .int 6), (2, .ref (g_7 0)), (1, .ref (g_3 0)), (0, .ref b)]) hx hb dL_law_1137 hl (k := 0) rfl (by decide) (by decide) rfl (fun ls hl => ?_)
      refine lv_goto (tgt := 18) hx hb dL_law_1140 (by decide) ?_
      refine lv_iload_n hx hb dL_law_18 rfl (lv_at hl 0 rfl) ?_
      refine lv_aload_n hx hb dL_law_19 rfl (lv_at hl 3 rfl) ?_
      refine va_slen hx hb hX hbl hbA hS dL_law_20 ?_
      refine hz_ev 6 (by decide) ?_
      refine lv_bipush (v := 6) hx hb dL_law_21 (by decide) ?_
      refine lv_isub hx hb dL_law_23 ?_
      refine hz_ev 0 (by decide) ?_
      refine lv_icmp_gt (tgt := 1143) hx hb dL_law_24 (by decide) (fun _ => ?_) (fun z => absurd (by decide) z)
      refine lv_iconst (v := 1) hx hb dL_law_1143 (by decide) ?_
      refine va_forget (fun q hq => by have h9 := hS.2.2 q hq; rw [hAe] at h9; exact h9) ?_
      refine W.widen (k := 600000) (n := 7302250) (Nat.le_of_ble_eq_true rfl) (Nat.le_of_ble_eq_true rfl) ?_
      exact lw_ret hx hb hr hlocks dL_law_1144
    · refine lv_tableIn (off := 217) (tgt := 250) hx hb dL_law_33 (by decide) (by decide) (by decide) (by decide) ?_
      refine lv_aload_n hx hb dL_law_250 rfl (lv_at hl 2 rfl) ?_
      have hFc := va_free (wc := [(g_3 0, .inr (11, [.ref (g_3 1), .ref (g_3 2), .ref (g_3 3), .ref (g_3 4), .int 0, .ref (g_3 5), .ref (g_3 6), .ref (g_3 7), .ref (g_3 8), .int 0, .int 0, .ref (g_3 9), .ref (g_3 10), .ref (g_3 11), .ref (g_3 12), .ref (g_3 13), .int 0])), (g_3 2, .inr (0, [.null, .null, .int 0])), (g_3 1, .inr (7, [.ref (g_3 14), .int 0, .int 0, .int 0]))]) hD hS hA [0,3,1] rfl
      refine va_calli (va_runV (As := []) (rest := []) ⟨hx, hb, hml, hown, hT⟩ (c_X11_fair l D cs kK kV g_3 r_4 H.size) (cwV 0 hT (hz_gV q_419 q_420 q_421 q_174 q_422) rfl rfl rfl (by decide +kernel) ⟨(Nat.le_of_ble_eq_true rfl), (Nat.le_of_ble_eq_true rfl)⟩) ⟨hz_C.blind, va_recv hK hP (ci := 11) (q0 := 0) rfl rfl, hz_C.mk (hP.sub (ws' := [(g_3 0, .inr (11, [.ref (g_3 1), .ref (g_3 2), .ref (g_3 3), .ref (g_3 4), .int 0, .ref (g_3 5), .ref (g_3 6), .ref (g_3 7), .ref (g_3 8), .int 0, .int 0, .ref (g_3 9), .ref (g_3 10), .ref (g_3 11), .ref (g_3 12), .ref (g_3 13), .int 0])), (g_3 2, .inr (0, [.null, .null, .int 0])), (g_3 1, .inr (7, [.ref (g_3 14), .int 0, .int 0, .int 0]))]) [0,3,1] rfl) (hD.sub (ws' := [(g_3 0, .inr (11, [.ref (g_3 1), .ref (g_3 2), .ref (g_3 3), .ref (g_3 4), .int 0, .ref (g_3 5), .ref (g_3 6), .ref (g_3 7), .ref (g_3 8), .int 0, .int 0, .ref (g_3 9), .ref (g_3 10), .ref (g_3 11), .ref (g_3 12), .ref (g_3 13), .int 0])), (g_3 2, .inr (0, [.null, .null, .int 0])), (g_3 1, .inr (7, [.ref (g_3 14), .int 0, .int 0, .int 0]))]) [0,3,1] (by decide) rfl) hE hS hFc⟩ rfl rfl hl.1 rfl (lv_room (Nat.le_of_ble_eq_true rfl)) dL_law_251 ⟨(Nat.le_of_ble_eq_true rfl), (Nat.le_of_ble_eq_true rfl)⟩) hS (fun q _ h => hFc q h) hFc (fun r_14 u t H1 locs ht hvm hw hB hz1 hk1 hS => ?_)
      obtain ⟨hP, hD⟩ := va_join (wr := [(g_7 0, .inr (12, [.ref (g_7 1), .int 0, .int 0, .ref (g_7 2), .ref (g_7 3), .ref (g_7 4), .ref (g_7 5), .ref (g_7 6), .int 0, .int 0, .int 0, .int 0, .int 0, .int 0, .int 0, .ref (g_7 7), .int 0, .ref (g_7 8), .int 0, .ref (g_7 9), .ref (g_7 10), .int 0, .ref (g_7 11), .ref (g_7 12), .ref (g_7 13), .int 0, .int 0, .ref (g_7 14), .ref (g_7 15), .int 0, .int 0, .int 0, .ref (g_7 16), .long 0, .ref (g_7 17), .ref (g_7 18), .ref (g_7 19)])), (g_7 1, .inl (cs 1, 400, .inl (fun _ => 0))), (g_7 3, .inl (cs 0, 7, .inl (fun _ => 0))), (g_7 5, .inl (cs 0, 6, .inl (fun _ => 0))), (g_7 6, .inl (cs 0, 86, .inl (fun _ => 0))), (g_7 10, .inl (cs 0, 123, .inl (fun _ => 0))), (g_7 17, .inl (cs 0, 492, .inl (fun _ => 0))), (g_7 18, .inl (cs 0, 4, .inl (fun _ => 0))), (g_7 19, .inl (cs 2, 4, .inl (fun _ => 0)))]) (w1 := []) hP hD [0, 3, 1] [17, 18, 19, 20, 21, 22, 23, 24, 25] rfl rfl (by decide) (by decide) hk1 hFc hz_P0 hz_D0
      generalize H1 = H at hP hS ⊢
      have hP : va_P D classes [(g_7 0, .inr (12, [.ref (g_7 1), .int 0, .int 0, .ref (g_7 2), .ref (g_7 3), .ref (g_7 4), .ref (g_7 5), .ref (g_7 6), .int 0, .int 0, .int 0, .int 0, .int 0, .int 0, .int 0, .ref (g_7 7), .int 0, .ref (g_7 8), .int 0, .ref (g_7 9), .ref (g_7 10), .int 0, .ref (g_7 11), .ref (g_7 12), .ref (g_7 13), .int 0, .int 0, .ref (g_7 14), .ref (g_7 15), .int 0, .int 0, .int 0, .ref (g_7 16), .long 0, .ref (g_7 17), .ref (g_7 18), .ref (g_7 19)])), (g_7 1, .inl (cs 1, 400, .inl (fun _ => 0))), (g_7 3, .inl (cs 0, 7, .inl (fun _ => 0))), (g_7 5, .inl (cs 0, 6, .inl (fun _ => 0))), (g_7 6, .inl (cs 0, 86, .inl (fun _ => 0))), (g_7 10, .inl (cs 0, 123, .inl (fun _ => 0))), (g_7 17, .inl (cs 0, 492, .inl (fun _ => 0))), (g_7 18, .inl (cs 0, 4, .inl (fun _ => 0))), (g_7 19, .inl (cs 2, 4, .inl (fun _ => 0)))] H := hP
      have hD : va_D A [(g_7 0, .inr (12, [.ref (g_7 1), .int 0, .int 0, .ref (g_7 2), .ref (g_7 3), .ref (g_7 4), .ref (g_7 5), .ref (g_7 6), .int 0, .int 0, .int 0, .int 0, .int 0, .int 0, .int 0, .ref (g_7 7), .int 0, .ref (g_7 8), .int 0, .ref (g_7 9), .ref (g_7 10), .int 0, .ref (g_7 11), .ref (g_7 12), .ref (g_7 13), .int 0, .int 0, .ref (g_7 14), .ref (g_7 15), .int 0, .int 0, .int 0, .ref (g_7 16), .long 0, .ref (g_7 17), .ref (g_7 18), .ref (g_7 19)])), (g_7 1, .inl (cs 1, 400, .inl (fun _ => 0))), (g_7 3, .inl (cs 0, 7, .inl (fun _ => 0))), (g_7 5, .inl (cs 0, 6, .inl (fun _ => 0))), (g_7 6, .inl (cs 0, 86, .inl (fun _ => 0))), (g_7 10, .inl (cs 0, 123, .inl (fun _ => 0))), (g_7 17, .inl (cs 0, 492, .inl (fun _ => 0))), (g_7 18, .inl (cs 0, 4, .inl (fun _ => 0))), (g_7 19, .inl (cs 2, 4, .inl (fun _ => 0)))] := hD
      clear hk1 hFc hz1
      refine W.widen (k := 196) (n := 28823) (Nat.le_of_ble_eq_true rfl) (Nat.le_of_ble_eq_true rfl) ?_
      subst hw
      refine lv_aload_n hx hb dL_law_254 rfl (lv_at hl 1 rfl) ?_
      have hFc := va_free (wc := [(g_7 0, .inr (12, [.ref (g_7 1), .int 0, .int 0, .ref (g_7 2), .ref (g_7 3), .ref (g_7 4), .ref (g_7 5), .ref (g_7 6), .int 0, .int 0, .int 0, .int 0, .int 0, .int 0, .int 0, .ref (g_7 7), .int 0, .ref (g_7 8), .int 0, .ref (g_7 9), .ref (g_7 10), .int 0, .ref (g_7 11), .ref (g_7 12), .ref (g_7 13), .int 0, .int 0, .ref (g_7 14), .ref (g_7 15), .int 0, .int 0, .int 0, .ref (g_7 16), .long 0, .ref (g_7 17), .ref (g_7 18), .ref (g_7 19)])), (g_7 3, .inl (cs 0, 7, .inl (fun _ => 0))), (g_7 6, .inl (cs 0, 86, .inl (fun _ => 0)))]) hD hS hA [0,2,4] rfl
      refine va_calli (va_runV (As := []) (rest := [.int (-3)]) ⟨hx, hb, hml, hown, hT⟩ (c_X12_fair l D cs kK kV g_7 H.size) (cwV 0 hT (hz_gV q_423 q_424 q_425 q_252 q_426) rfl rfl rfl (by decide +kernel) ⟨(Nat.le_of_ble_eq_true rfl), (Nat.le_of_ble_eq_true rfl)⟩) ⟨hz_C.blind, va_recv hK hP (ci := 12) (q0 := 0) rfl rfl, hz_C.mk (hP.sub (ws' := [(g_7 0, .inr (12, [.ref (g_7 1), .int 0, .int 0, .ref (g_7 2), .ref (g_7 3), .ref (g_7 4), .ref (g_7 5), .ref (g_7 6), .int 0, .int 0, .int 0, .int 0, .int 0, .int 0, .int 0, .ref (g_7 7), .int 0, .ref (g_7 8), .int 0, .ref (g_7 9), .ref (g_7 10), .int 0, .ref (g_7 11), .ref (g_7 12), .ref (g_7 13), .int 0, .int 0, .ref (g_7 14), .ref (g_7 15), .int 0, .int 0, .int 0, .ref (g_7 16), .long 0, .ref (g_7 17), .ref (g_7 18), .ref (g_7 19)])), (g_7 3, .inl (cs 0, 7, .inl (fun _ => 0))), (g_7 6, .inl (cs 0, 86, .inl (fun _ => 0)))]) [0,2,4] rfl) (hD.sub (ws' := [(g_7 0, .inr (12, [.ref (g_7 1), .int 0, .int 0, .ref (g_7 2), .ref (g_7 3), .ref (g_7 4), .ref (g_7 5), .ref (g_7 6), .int 0, .int 0, .int 0, .int 0, .int 0, .int 0, .int 0, .ref (g_7 7), .int 0, .ref (g_7 8), .int 0, .ref (g_7 9), .ref (g_7 10), .int 0, .ref (g_7 11), .ref (g_7 12), .ref (g_7 13), .int 0, .int 0, .ref (g_7 14), .ref (g_7 15), .int 0, .int 0, .int 0, .ref (g_7 16), .long 0, .ref (g_7 17), .ref (g_7 18), .ref (g_7 19)])), (g_7 3, .inl (cs 0, 7, .inl (fun _ => 0))), (g_7 6, .inl (cs 0, 86, .inl (fun _ => 0)))]) [0,2,4] (by decide) rfl) hE hS hFc⟩ rfl rfl hl.1 rfl (lv_room (Nat.le_of_ble_eq_true rfl)) dL_law_255 ⟨(Nat.le_of_ble_eq_true rfl), (Nat.le_of_ble_eq_true rfl)⟩) hS (fun q _ h => hFc q h) hFc (fun r_15 u t H1 locs ht hvm hw hB hz1 hk1 hS => ?_)
      obtain ⟨hP, hD⟩ := va_join (wr := [(g_7 1, .inl (cs 1, 400, .inl (fun _ => 0))), (g_7 5, .inl (cs 0, 6, .inl (fun _ => 0))), (g_7 10, .inl (cs 0, 123, .inl (fun _ => 0))), (g_7 17, .inl (cs 0, 492, .inl (fun _ => 0))), (g_7 18, .inl (cs 0, 4, .inl (fun _ => 0))), (g_7 19, .inl (cs 2, 4, .inl (fun _ => 0)))]) (w1 := []) hP hD [0, 2, 4] [1, 3, 5, 6, 7, 8] rfl rfl (by decide) (by decide) hk1 hFc hz_P0 hz_D0
      generalize H1 = H at hP hS ⊢
      have hP : va_P D classes [(g_7 1, .inl (cs 1, 400, .inl (fun _ => 0))), (g_7 5, .inl (cs 0, 6, .inl (fun _ => 0))), (g_7 10, .inl (cs 0, 123, .inl (fun _ => 0))), (g_7 17, .inl (cs 0, 492, .inl (fun _ => 0))), (g_7 18, .inl (cs 0, 4, .inl (fun _ => 0))), (g_7 19, .inl (cs 2, 4, .inl (fun _ => 0)))] H := hP
      have hD : va_D A [(g_7 1, .inl (cs 1, 400, .inl (fun _ => 0))), (g_7 5, .inl (cs 0, 6, .inl (fun _ => 0))), (g_7 10, .inl (cs 0, 123, .inl (fun _ => 0))), (g_7 17, .inl (cs 0, 492, .inl (fun _ => 0))), (g_7 18, .inl (cs 0, 4, .inl (fun _ => 0))), (g_7 19, .inl (cs 2, 4, .inl (fun _ => 0)))] := hD
      clear hk1 hFc hz1
      subst hw
      refine lv_icmp_eq (tgt := 1137) hx hb dL_law_258 (by decide) (fun _ => ?_) (fun z => absurd (by decide) z)
      refine lv_iinc (v := 6) (lv' := [(3, .int 6), (2, .ref (g_7 0)), (1, .ref (g_3 0)), (0, .ref b)]) hx hb dL_law_1137 hl (k := 0) rfl (by decide) (by decide) rfl (fun ls hl => ?_)
      refine lv_goto (tgt := 18) hx hb dL_law_1140 (by decide) ?_
      refine lv_iload_n hx hb dL_law_18 rfl (lv_at hl 0 rfl) ?_
      refine lv_aload_n hx hb dL_law_19 rfl (lv_at hl 3 rfl) ?_
      refine va_slen hx hb hX hbl hbA hS dL_law_20 ?_
      refine hz_ev 6 (by decide) ?_
      refine lv_bipush (v := 6) hx hb dL_law_21 (by decide) ?_
      refine lv_isub hx hb dL_law_23 ?_
      refine hz_ev 0 (by decide) ?_
      refine lv_icmp_gt (tgt := 1143) hx hb dL_law_24 (by decide) (fun _ => ?_) (fun z => absurd (by decide) z)
      refine lv_iconst (v := 1) hx hb dL_law_1143 (by decide) ?_
      refine va_forget (fun q hq => by have h9 := hS.2.2 q hq; rw [hAe] at h9; exact h9) ?_
      refine W.widen (k := 600000) (n := 7302250) (Nat.le_of_ble_eq_true rfl) (Nat.le_of_ble_eq_true rfl) ?_
      exact lw_ret hx hb hr hlocks dL_law_1144
    · refine lv_tableIn (off := 230) (tgt := 263) hx hb dL_law_33 (by decide) (by decide) (by decide) (by decide) ?_
      refine lv_aload_n hx hb dL_law_263 rfl (lv_at hl 2 rfl) ?_
      have hFc := va_free (wc := [(g_3 0, .inr (11, [.ref (g_3 1), .ref (g_3 2), .ref (g_3 3), .ref (g_3 4), .int 0, .ref (g_3 5), .ref (g_3 6), .ref (g_3 7), .ref (g_3 8), .int 0, .int 0, .ref (g_3 9), .ref (g_3 10), .ref (g_3 11), .ref (g_3 12), .ref (g_3 13), .int 0])), (g_3 3, .inr (5, [.null, .ref (g_3 15), .int 0, .int 0])), (g_3 1, .inr (7, [.ref (g_3 14), .int 0, .int 0, .int 0]))]) hD hS hA [0,4,1] rfl
      refine va_calli (va_runV (As := []) (rest := []) ⟨hx, hb, hml, hown, hT⟩ (c_X11_rule l D cs kK kV g_3 r_4 H.size) (cwV 0 hT (hz_gV q_427 q_428 q_429 q_174 q_430) rfl rfl rfl (by decide +kernel) ⟨(Nat.le_of_ble_eq_true rfl), (Nat.le_of_ble_eq_true rfl)⟩) ⟨hz_C.blind, va_recv hK hP (ci := 11) (q0 := 0) rfl rfl, hz_C.mk (hP.sub (ws' := [(g_3 0, .inr (11, [.ref (g_3 1), .ref (g_3 2), .ref (g_3 3), .ref (g_3 4), .int 0, .ref (g_3 5), .ref (g_3 6), .ref (g_3 7), .ref (g_3 8), .int 0, .int 0, .ref (g_3 9), .ref (g_3 10), .ref (g_3 11), .ref (g_3 12), .ref (g_3 13), .int 0])), (g_3 3, .inr (5, [.null, .ref (g_3 15), .int 0, .int 0])), (g_3 1, .inr (7, [.ref (g_3 14), .int 0, .int 0, .int 0]))]) [0,4,1] rfl) (hD.sub (ws' := [(g_3 0, .inr (11, [.ref (g_3 1), .ref (g_3 2), .ref (g_3 3), .ref (g_3 4), .int 0, .ref (g_3 5), .ref (g_3 6), .ref (g_3 7), .ref (g_3 8), .int 0, .int 0, .ref (g_3 9), .ref (g_3 10), .ref (g_3 11), .ref (g_3 12), .ref (g_3 13), .int 0])), (g_3 3, .inr (5, [.null, .ref (g_3 15), .int 0, .int 0])), (g_3 1, .inr (7, [.ref (g_3 14), .int 0, .int 0, .int 0]))]) [0,4,1] (by decide) rfl) hE hS hFc⟩ rfl rfl hl.1 rfl (lv_room (Nat.le_of_ble_eq_true rfl)) dL_law_264 ⟨(Nat.le_of_ble_eq_true rfl), (Nat.le_of_ble_eq_true rfl)⟩) hS (fun q _ h => hFc q h) hFc (fun r_16 u t H1 locs ht hvm hw hB hz1 hk1 hS => ?_)
      obtain ⟨hP, hD⟩ := va_join (wr := [(g_7 0, .inr (12, [.ref (g_7 1), .int 0, .int 0, .ref (g_7 2), .ref (g_7 3), .ref (g_7 4), .ref (g_7 5), .ref (g_7 6), .int 0, .int 0, .int 0, .int 0, .int 0, .int 0, .int 0, .ref (g_7 7), .int 0, .ref (g_7 8), .int 0, .ref (g_7 9), .ref (g_7 10), .int 0, .ref (g_7 11), .ref (g_7 12), .ref (g_7 13), .int 0, .int 0, .ref (g_7 14), .ref (g_7 15), .int 0, .int 0, .int 0, .ref (g_7 16), .long 0, .ref (g_7 17), .ref (g_7 18), .ref (g_7 19)])), (g_7 1, .inl (cs 1, 400, .inl (fun _ => 0))), (g_7 3, .inl (cs 0, 7, .inl (fun _ => 0))), (g_7 5, .inl (cs 0, 6, .inl (fun _ => 0))), (g_7 6, .inl (cs 0, 86, .inl (fun _ => 0))), (g_7 10, .inl (cs 0, 123, .inl (fun _ => 0))), (g_7 17, .inl (cs 0, 492, .inl (fun _ => 0))), (g_7 18, .inl (cs 0, 4, .inl (fun _ => 0))), (g_7 19, .inl (cs 2, 4, .inl (fun _ => 0)))]) (w1 := []) hP hD [0, 4, 1] [17, 18, 19, 20, 21, 22, 23, 24, 25] rfl rfl (by decide) (by decide) hk1 hFc hz_P0 hz_D0
      generalize H1 = H at hP hS ⊢
      have hP : va_P D classes [(g_7 0, .inr (12, [.ref (g_7 1), .int 0, .int 0, .ref (g_7 2), .ref (g_7 3), .ref (g_7 4), .ref (g_7 5), .ref (g_7 6), .int 0, .int 0, .int 0, .int 0, .int 0, .int 0, .int 0, .ref (g_7 7), .int 0, .ref (g_7 8), .int 0, .ref (g_7 9), .ref (g_7 10), .int 0, .ref (g_7 11), .ref (g_7 12), .ref (g_7 13), .int 0, .int 0, .ref (g_7 14), .ref (g_7 15), .int 0, .int 0, .int 0, .ref (g_7 16), .long 0, .ref (g_7 17), .ref (g_7 18), .ref (g_7 19)])), (g_7 1, .inl (cs 1, 400, .inl (fun _ => 0))), (g_7 3, .inl (cs 0, 7, .inl (fun _ => 0))), (g_7 5, .inl (cs 0, 6, .inl (fun _ => 0))), (g_7 6, .inl (cs 0, 86, .inl (fun _ => 0))), (g_7 10, .inl (cs 0, 123, .inl (fun _ => 0))), (g_7 17, .inl (cs 0, 492, .inl (fun _ => 0))), (g_7 18, .inl (cs 0, 4, .inl (fun _ => 0))), (g_7 19, .inl (cs 2, 4, .inl (fun _ => 0)))] H := hP
      have hD : va_D A [(g_7 0, .inr (12, [.ref (g_7 1), .int 0, .int 0, .ref (g_7 2), .ref (g_7 3), .ref (g_7 4), .ref (g_7 5), .ref (g_7 6), .int 0, .int 0, .int 0, .int 0, .int 0, .int 0, .int 0, .ref (g_7 7), .int 0, .ref (g_7 8), .int 0, .ref (g_7 9), .ref (g_7 10), .int 0, .ref (g_7 11), .ref (g_7 12), .ref (g_7 13), .int 0, .int 0, .ref (g_7 14), .ref (g_7 15), .int 0, .int 0, .int 0, .ref (g_7 16), .long 0, .ref (g_7 17), .ref (g_7 18), .ref (g_7 19)])), (g_7 1, .inl (cs 1, 400, .inl (fun _ => 0))), (g_7 3, .inl (cs 0, 7, .inl (fun _ => 0))), (g_7 5, .inl (cs 0, 6, .inl (fun _ => 0))), (g_7 6, .inl (cs 0, 86, .inl (fun _ => 0))), (g_7 10, .inl (cs 0, 123, .inl (fun _ => 0))), (g_7 17, .inl (cs 0, 492, .inl (fun _ => 0))), (g_7 18, .inl (cs 0, 4, .inl (fun _ => 0))), (g_7 19, .inl (cs 2, 4, .inl (fun _ => 0)))] := hD
      clear hk1 hFc hz1
      refine W.widen (k := 192) (n := 28775) (Nat.le_of_ble_eq_true rfl) (Nat.le_of_ble_eq_true rfl) ?_
      subst hw
      refine lv_aload_n hx hb dL_law_267 rfl (lv_at hl 1 rfl) ?_
      have hFc := va_free (wc := [(g_7 0, .inr (12, [.ref (g_7 1), .int 0, .int 0, .ref (g_7 2), .ref (g_7 3), .ref (g_7 4), .ref (g_7 5), .ref (g_7 6), .int 0, .int 0, .int 0, .int 0, .int 0, .int 0, .int 0, .ref (g_7 7), .int 0, .ref (g_7 8), .int 0, .ref (g_7 9), .ref (g_7 10), .int 0, .ref (g_7 11), .ref (g_7 12), .ref (g_7 13), .int 0, .int 0, .ref (g_7 14), .ref (g_7 15), .int 0, .int 0, .int 0, .ref (g_7 16), .long 0, .ref (g_7 17), .ref (g_7 18), .ref (g_7 19)])), (g_7 3, .inl (cs 0, 7, .inl (fun _ => 0))), (g_7 5, .inl (cs 0, 6, .inl (fun _ => 0)))]) hD hS hA [0,2,3] rfl
      refine va_calli (va_runV (As := []) (rest := [.int (-3)]) ⟨hx, hb, hml, hown, hT⟩ (c_X12_rule l D cs kK kV g_7 H.size) (cwV 0 hT (hz_gV q_431 q_432 q_433 q_252 q_434) rfl rfl rfl (by decide +kernel) ⟨(Nat.le_of_ble_eq_true rfl), (Nat.le_of_ble_eq_true rfl)⟩) ⟨hz_C.blind, va_recv hK hP (ci := 12) (q0 := 0) rfl rfl, hz_C.mk (hP.sub (ws' := [(g_7 0, .inr (12, [.ref (g_7 1), .int 0, .int 0, .ref (g_7 2), .ref (g_7 3), .ref (g_7 4), .ref (g_7 5), .ref (g_7 6), .int 0, .int 0, .int 0, .int 0, .int 0, .int 0, .int 0, .ref (g_7 7), .int 0, .ref (g_7 8), .int 0, .ref (g_7 9), .ref (g_7 10), .int 0, .ref (g_7 11), .ref (g_7 12), .ref (g_7 13), .int 0, .int 0, .ref (g_7 14), .ref (g_7 15), .int 0, .int 0, .int 0, .ref (g_7 16), .long 0, .ref (g_7 17), .ref (g_7 18), .ref (g_7 19)])), (g_7 3, .inl (cs 0, 7, .inl (fun _ => 0))), (g_7 5, .inl (cs 0, 6, .inl (fun _ => 0)))]) [0,2,3] rfl) (hD.sub (ws' := [(g_7 0, .inr (12, [.ref (g_7 1), .int 0, .int 0, .ref (g_7 2), .ref (g_7 3), .ref (g_7 4), .ref (g_7 5), .ref (g_7 6), .int 0, .int 0, .int 0, .int 0, .int 0, .int 0, .int 0, .ref (g_7 7), .int 0, .ref (g_7 8), .int 0, .ref (g_7 9), .ref (g_7 10), .int 0, .ref (g_7 11), .ref (g_7 12), .ref (g_7 13), .int 0, .int 0, .ref (g_7 14), .ref (g_7 15), .int 0, .int 0, .int 0, .ref (g_7 16), .long 0, .ref (g_7 17), .ref (g_7 18), .ref (g_7 19)])), (g_7 3, .inl (cs 0, 7, .inl (fun _ => 0))), (g_7 5, .inl (cs 0, 6, .inl (fun _ => 0)))]) [0,2,3] (by decide) rfl) hE hS hFc⟩ rfl rfl hl.1 rfl (lv_room (Nat.le_of_ble_eq_true rfl)) dL_law_268 ⟨(Nat.le_of_ble_eq_true rfl), (Nat.le_of_ble_eq_true rfl)⟩) hS (fun q _ h => hFc q h) hFc (fun r_17 u t H1 locs ht hvm hw hB hz1 hk1 hS => ?_)
      obtain ⟨hP, hD⟩ := va_join (wr := [(g_7 1, .inl (cs 1, 400, .inl (fun _ => 0))), (g_7 6, .inl (cs 0, 86, .inl (fun _ => 0))), (g_7 10, .inl (cs 0, 123, .inl (fun _ => 0))), (g_7 17, .inl (cs 0, 492, .inl (fun _ => 0))), (g_7 18, .inl (cs 0, 4, .inl (fun _ => 0))), (g_7 19, .inl (cs 2, 4, .inl (fun _ => 0)))]) (w1 := []) hP hD [0, 2, 3] [1, 4, 5, 6, 7, 8] rfl rfl (by decide) (by decide) hk1 hFc hz_P0 hz_D0
      generalize H1 = H at hP hS ⊢
      have hP : va_P D classes [(g_7 1, .inl (cs 1, 400, .inl (fun _ => 0))), (g_7 6, .inl (cs 0, 86, .inl (fun _ => 0))), (g_7 10, .inl (cs 0, 123, .inl (fun _ => 0))), (g_7 17, .inl (cs 0, 492, .inl (fun _ => 0))), (g_7 18, .inl (cs 0, 4, .inl (fun _ => 0))), (g_7 19, .inl (cs 2, 4, .inl (fun _ => 0)))] H := hP
      have hD : va_D A [(g_7 1, .inl (cs 1, 400, .inl (fun _ => 0))), (g_7 6, .inl (cs 0, 86, .inl (fun _ => 0))), (g_7 10, .inl (cs 0, 123, .inl (fun _ => 0))), (g_7 17, .inl (cs 0, 492, .inl (fun _ => 0))), (g_7 18, .inl (cs 0, 4, .inl (fun _ => 0))), (g_7 19, .inl (cs 2, 4, .inl (fun _ => 0)))] := hD
      clear hk1 hFc hz1
      subst hw
      refine lv_icmp_eq (tgt := 1137) hx hb dL_law_271 (by decide) (fun _ => ?_) (fun z => absurd (by decide) z)
      refine lv_iinc (v := 6) (lv' := [(3, .int 6), (2, .ref (g_7 0)), (1, .ref (g_3 0)), (0, .ref b)]) hx hb dL_law_1137 hl (k := 0) rfl (by decide) (by decide) rfl (fun ls hl => ?_)
      refine lv_goto (tgt := 18) hx hb dL_law_1140 (by decide) ?_
      refine lv_iload_n hx hb dL_law_18 rfl (lv_at hl 0 rfl) ?_
      refine lv_aload_n hx hb dL_law_19 rfl (lv_at hl 3 rfl) ?_
      refine va_slen hx hb hX hbl hbA hS dL_law_20 ?_
      refine hz_ev 6 (by decide) ?_
      refine lv_bipush (v := 6) hx hb dL_law_21 (by decide) ?_
      refine lv_isub hx hb dL_law_23 ?_
      refine hz_ev 0 (by decide) ?_
      refine lv_icmp_gt (tgt := 1143) hx hb dL_law_24 (by decide) (fun _ => ?_) (fun z => absurd (by decide) z)
      refine lv_iconst (v := 1) hx hb dL_law_1143 (by decide) ?_
      refine va_forget (fun q hq => by have h9 := hS.2.2 q hq; rw [hAe] at h9; exact h9) ?_
      refine W.widen (k := 600000) (n := 7302250) (Nat.le_of_ble_eq_true rfl) (Nat.le_of_ble_eq_true rfl) ?_
      exact lw_ret hx hb hr hlocks dL_law_1144
    · refine lv_tableIn (off := 243) (tgt := 276) hx hb dL_law_33 (by decide) (by decide) (by decide) (by decide) ?_
      refine lv_aload_n hx hb dL_law_276 rfl (lv_at hl 2 rfl) ?_
      refine lv_aload_n hx hb dL_law_277 rfl (lv_at hl 3 rfl) ?_
      refine lv_iload_n hx hb dL_law_278 rfl (lv_at hl 0 rfl) ?_
      refine lv_iconst (v := 1) hx hb dL_law_279 (by decide) ?_
      refine lv_iadd hx hb dL_law_280 ?_
      refine hz_ev 1 (by decide) ?_
      refine va_sld hx hb hX hbl hbA hS (by unfold vp_in; decide) dL_law_281 ?_
      refine hz_ev (xs 1) rfl ?_
      refine lv_aload_n hx hb dL_law_282 rfl (lv_at hl 3 rfl) ?_
      refine lv_iload_n hx hb dL_law_283 rfl (lv_at hl 0 rfl) ?_
      refine lv_iconst (v := 2) hx hb dL_law_284 (by decide) ?_
      refine lv_iadd hx hb dL_law_285 ?_
      refine hz_ev 2 (by decide) ?_
      refine va_sld hx hb hX hbl hbA hS (by unfold vp_in; decide) dL_law_286 ?_
      refine hz_ev (xs 2) rfl ?_
      refine va_calli (va_runV (As := [.int (xs 1), .int (xs 2)]) (rest := []) ⟨hx, hb, hml, hown, hT⟩ (c_X11_half l D cs kK kV g_3 r_4 (xs 1) (xs 2)) (cwV 2 hT (hz_gV q_435 q_436 q_437 q_174 q_438) rfl rfl rfl (by decide +kernel) ⟨(Nat.le_of_ble_eq_true rfl), (Nat.le_of_ble_eq_true rfl)⟩) ⟨hz_P.blind, va_recv hK hP (ci := 11) (q0 := 0) rfl rfl, hz_P.mk (hP.sub (ws' := [(g_3 0, .inr (11, [.ref (g_3 1), .ref (g_3 2), .ref (g_3 3), .ref (g_3 4), .int 0, .ref (g_3 5), .ref (g_3 6), .ref (g_3 7), .ref (g_3 8), .int 0, .int 0, .ref (g_3 9), .ref (g_3 10), .ref (g_3 11), .ref (g_3 12), .ref (g_3 13), .int 0])), (g_3 5, .inr (8, [.int 0, .int 0, .int 0, .int 0, .int 0, .int 12, .int 5, .int 1, .int 0, .ref (r_4 0), .ref (r_4 1), .ref (r_4 2), .ref (r_4 3), .ref (r_4 4), .ref (r_4 5), .ref (r_4 6), .ref (r_4 7), .ref (r_4 8)]))]) [0,5] rfl) hE hS⟩ rfl rfl hl.1 rfl (lv_room (Nat.le_of_ble_eq_true rfl)) dL_law_287 ⟨(Nat.le_of_ble_eq_true rfl), (Nat.le_of_ble_eq_true rfl)⟩) hS (fun _ _ h => h.elim) (fun _ h => h.elim) (fun r_18 u t H1 locs ht hvm hw hB hz1 hk1 hS => ?_)
      have hP := hz_keep hP hk1
      clear hk1 hB hz1
      generalize H1 = H at hP hS ⊢
      subst hw
      refine lv_aload_n hx hb dL_law_290 rfl (lv_at hl 1 rfl) ?_
      refine lv_aload_n hx hb dL_law_291 rfl (lv_at hl 3 rfl) ?_
      refine lv_iload_n hx hb dL_law_292 rfl (lv_at hl 0 rfl) ?_
      refine lv_iconst (v := 1) hx hb dL_law_293 (by decide) ?_
      refine lv_iadd hx hb dL_law_294 ?_
      refine hz_ev 1 (by decide) ?_
      refine va_sld hx hb hX hbl hbA hS (by unfold vp_in; decide) dL_law_295 ?_
      refine hz_ev (xs 1) rfl ?_
      refine lv_aload_n hx hb dL_law_296 rfl (lv_at hl 3 rfl) ?_
      refine lv_iload_n hx hb dL_law_297 rfl (lv_at hl 0 rfl) ?_
      refine lv_iconst (v := 2) hx hb dL_law_298 (by decide) ?_
      refine lv_iadd hx hb dL_law_299 ?_
      refine hz_ev 2 (by decide) ?_
      refine va_sld hx hb hX hbl hbA hS (by unfold vp_in; decide) dL_law_300 ?_
      refine hz_ev (xs 2) rfl ?_
      refine va_calli (va_runV (As := [.int (xs 1), .int (xs 2)]) (rest := [.int (-1)]) ⟨hx, hb, hml, hown, hT⟩ (c_X12_half l D cs kK kV g_7 (xs 1) (xs 2)) (cwV 2 hT (hz_gV q_439 q_440 q_441 q_252 q_442) rfl rfl rfl (by decide +kernel) ⟨(Nat.le_of_ble_eq_true rfl), (Nat.le_of_ble_eq_true rfl)⟩) ⟨hz_P.blind, va_recv hK hP (ci := 12) (q0 := 17) rfl rfl, hz_P.mk (hP.sub (ws' := [(g_7 0, .inr (12, [.ref (g_7 1), .int 0, .int 0, .ref (g_7 2), .ref (g_7 3), .ref (g_7 4), .ref (g_7 5), .ref (g_7 6), .int 0, .int 0, .int 0, .int 0, .int 0, .int 0, .int 0, .ref (g_7 7), .int 0, .ref (g_7 8), .int 0, .ref (g_7 9), .ref (g_7 10), .int 0, .ref (g_7 11), .ref (g_7 12), .ref (g_7 13), .int 0, .int 0, .ref (g_7 14), .ref (g_7 15), .int 0, .int 0, .int 0, .ref (g_7 16), .long 0, .ref (g_7 17), .ref (g_7 18), .ref (g_7 19)])), (g_7 10, .inl (cs 0, 123, .inl (fun _ => 0)))]) [17,22] rfl) hE hS⟩ rfl rfl hl.1 rfl (lv_room (Nat.le_of_ble_eq_true rfl)) dL_law_301 ⟨(Nat.le_of_ble_eq_true rfl), (Nat.le_of_ble_eq_true rfl)⟩) hS (fun _ _ h => h.elim) (fun _ h => h.elim) (fun r_19 u t H1 locs ht hvm hw hB hz1 hk1 hS => ?_)
      have hP := hz_keep hP hk1
      clear hk1 hB hz1
      generalize H1 = H at hP hS ⊢
      subst hw
      refine lv_icmp_eq (tgt := 1137) hx hb dL_law_304 (by decide) (fun _ => ?_) (fun z => absurd (by decide) z)
      refine lv_iinc (v := 6) (lv' := [(3, .int 6), (2, .ref (g_7 0)), (1, .ref (g_3 0)), (0, .ref b)]) hx hb dL_law_1137 hl (k := 0) rfl (by decide) (by decide) rfl (fun ls hl => ?_)
      refine lv_goto (tgt := 18) hx hb dL_law_1140 (by decide) ?_
      refine lv_iload_n hx hb dL_law_18 rfl (lv_at hl 0 rfl) ?_
      refine lv_aload_n hx hb dL_law_19 rfl (lv_at hl 3 rfl) ?_
      refine va_slen hx hb hX hbl hbA hS dL_law_20 ?_
      refine hz_ev 6 (by decide) ?_
      refine lv_bipush (v := 6) hx hb dL_law_21 (by decide) ?_
      refine lv_isub hx hb dL_law_23 ?_
      refine hz_ev 0 (by decide) ?_
      refine lv_icmp_gt (tgt := 1143) hx hb dL_law_24 (by decide) (fun _ => ?_) (fun z => absurd (by decide) z)
      refine lv_iconst (v := 1) hx hb dL_law_1143 (by decide) ?_
      refine va_forget (fun q hq => by have h9 := hS.2.2 q hq; rw [hAe] at h9; exact h9) ?_
      refine W.widen (k := 600000) (n := 7302250) (Nat.le_of_ble_eq_true rfl) (Nat.le_of_ble_eq_true rfl) ?_
      exact lw_ret hx hb hr hlocks dL_law_1144
    · refine lv_tableIn (off := 276) (tgt := 309) hx hb dL_law_33 (by decide) (by decide) (by decide) (by decide) ?_
      refine lv_aload_n hx hb dL_law_309 rfl (lv_at hl 2 rfl) ?_
      refine lv_aload_n hx hb dL_law_310 rfl (lv_at hl 3 rfl) ?_
      refine lv_iload_n hx hb dL_law_311 rfl (lv_at hl 0 rfl) ?_
      refine lv_iconst (v := 1) hx hb dL_law_312 (by decide) ?_
      refine lv_iadd hx hb dL_law_313 ?_
      refine hz_ev 1 (by decide) ?_
      refine va_sld hx hb hX hbl hbA hS (by unfold vp_in; decide) dL_law_314 ?_
      refine hz_ev (xs 1) rfl ?_
      refine lv_aload_n hx hb dL_law_315 rfl (lv_at hl 3 rfl) ?_
      refine lv_iload_n hx hb dL_law_316 rfl (lv_at hl 0 rfl) ?_
      refine lv_iconst (v := 2) hx hb dL_law_317 (by decide) ?_
      refine lv_iadd hx hb dL_law_318 ?_
      refine hz_ev 2 (by decide) ?_
      refine va_sld hx hb hX hbl hbA hS (by unfold vp_in; decide) dL_law_319 ?_
      refine hz_ev (xs 2) rfl ?_
      refine va_calli (va_runV (As := [.int (xs 1), .int (xs 2)]) (rest := []) ⟨hx, hb, hml, hown, hT⟩ (c_X11_fit l D cs kK kV g_3 r_4 (xs 1) (xs 2)) (cwV 2 hT (hz_gV q_443 q_444 q_445 q_174 q_446) rfl rfl rfl (by decide +kernel) ⟨(Nat.le_of_ble_eq_true rfl), (Nat.le_of_ble_eq_true rfl)⟩) ⟨hz_P.blind, va_recv hK hP (ci := 11) (q0 := 0) rfl rfl, hz_P.mk (hP.sub (ws' := [(g_3 0, .inr (11, [.ref (g_3 1), .ref (g_3 2), .ref (g_3 3), .ref (g_3 4), .int 0, .ref (g_3 5), .ref (g_3 6), .ref (g_3 7), .ref (g_3 8), .int 0, .int 0, .ref (g_3 9), .ref (g_3 10), .ref (g_3 11), .ref (g_3 12), .ref (g_3 13), .int 0])), (g_3 5, .inr (8, [.int 0, .int 0, .int 0, .int 0, .int 0, .int 12, .int 5, .int 1, .int 0, .ref (r_4 0), .ref (r_4 1), .ref (r_4 2), .ref (r_4 3), .ref (r_4 4), .ref (r_4 5), .ref (r_4 6), .ref (r_4 7), .ref (r_4 8)]))]) [0,5] rfl) hE hS⟩ rfl rfl hl.1 rfl (lv_room (Nat.le_of_ble_eq_true rfl)) dL_law_320 ⟨(Nat.le_of_ble_eq_true rfl), (Nat.le_of_ble_eq_true rfl)⟩) hS (fun _ _ h => h.elim) (fun _ h => h.elim) (fun r_20 u t H1 locs ht hvm hw hB hz1 hk1 hS => ?_)
      have hP := hz_keep hP hk1
      clear hk1 hB hz1
      generalize H1 = H at hP hS ⊢
      subst hw
      refine lv_aload_n hx hb dL_law_323 rfl (lv_at hl 1 rfl) ?_
      refine lv_aload_n hx hb dL_law_324 rfl (lv_at hl 3 rfl) ?_
      refine lv_iload_n hx hb dL_law_325 rfl (lv_at hl 0 rfl) ?_
      refine lv_iconst (v := 1) hx hb dL_law_326 (by decide) ?_
      refine lv_iadd hx hb dL_law_327 ?_
      refine hz_ev 1 (by decide) ?_
      refine va_sld hx hb hX hbl hbA hS (by unfold vp_in; decide) dL_law_328 ?_
      refine hz_ev (xs 1) rfl ?_
      refine lv_aload_n hx hb dL_law_329 rfl (lv_at hl 3 rfl) ?_
      refine lv_iload_n hx hb dL_law_330 rfl (lv_at hl 0 rfl) ?_
      refine lv_iconst (v := 2) hx hb dL_law_331 (by decide) ?_
      refine lv_iadd hx hb dL_law_332 ?_
      refine hz_ev 2 (by decide) ?_
      refine va_sld hx hb hX hbl hbA hS (by unfold vp_in; decide) dL_law_333 ?_
      refine hz_ev (xs 2) rfl ?_
      refine va_calli (va_runV (As := [.int (xs 1), .int (xs 2)]) (rest := [.int (-1)]) ⟨hx, hb, hml, hown, hT⟩ (c_X12_fit l D cs kK kV g_7 (xs 1) (xs 2)) (cwV 2 hT (hz_gV q_447 q_448 q_449 q_252 q_450) rfl rfl rfl (by decide +kernel) ⟨(Nat.le_of_ble_eq_true rfl), (Nat.le_of_ble_eq_true rfl)⟩) ⟨hz_P.blind, va_recv hK hP (ci := 12) (q0 := 17) rfl rfl, hz_P.mk (hP.sub (ws' := [(g_7 0, .inr (12, [.ref (g_7 1), .int 0, .int 0, .ref (g_7 2), .ref (g_7 3), .ref (g_7 4), .ref (g_7 5), .ref (g_7 6), .int 0, .int 0, .int 0, .int 0, .int 0, .int 0, .int 0, .ref (g_7 7), .int 0, .ref (g_7 8), .int 0, .ref (g_7 9), .ref (g_7 10), .int 0, .ref (g_7 11), .ref (g_7 12), .ref (g_7 13), .int 0, .int 0, .ref (g_7 14), .ref (g_7 15), .int 0, .int 0, .int 0, .ref (g_7 16), .long 0, .ref (g_7 17), .ref (g_7 18), .ref (g_7 19)])), (g_7 10, .inl (cs 0, 123, .inl (fun _ => 0)))]) [17,22] rfl) hE hS⟩ rfl rfl hl.1 rfl (lv_room (Nat.le_of_ble_eq_true rfl)) dL_law_334 ⟨(Nat.le_of_ble_eq_true rfl), (Nat.le_of_ble_eq_true rfl)⟩) hS (fun _ _ h => h.elim) (fun _ h => h.elim) (fun r_21 u t H1 locs ht hvm hw hB hz1 hk1 hS => ?_)
      have hP := hz_keep hP hk1
      clear hk1 hB hz1
      generalize H1 = H at hP hS ⊢
      subst hw
      refine lv_icmp_eq (tgt := 1137) hx hb dL_law_337 (by decide) (fun _ => ?_) (fun z => absurd (by decide) z)
      refine lv_iinc (v := 6) (lv' := [(3, .int 6), (2, .ref (g_7 0)), (1, .ref (g_3 0)), (0, .ref b)]) hx hb dL_law_1137 hl (k := 0) rfl (by decide) (by decide) rfl (fun ls hl => ?_)
      refine lv_goto (tgt := 18) hx hb dL_law_1140 (by decide) ?_
      refine lv_iload_n hx hb dL_law_18 rfl (lv_at hl 0 rfl) ?_
      refine lv_aload_n hx hb dL_law_19 rfl (lv_at hl 3 rfl) ?_
      refine va_slen hx hb hX hbl hbA hS dL_law_20 ?_
      refine hz_ev 6 (by decide) ?_
      refine lv_bipush (v := 6) hx hb dL_law_21 (by decide) ?_
      refine lv_isub hx hb dL_law_23 ?_
      refine hz_ev 0 (by decide) ?_
      refine lv_icmp_gt (tgt := 1143) hx hb dL_law_24 (by decide) (fun _ => ?_) (fun z => absurd (by decide) z)
      refine lv_iconst (v := 1) hx hb dL_law_1143 (by decide) ?_
      refine va_forget (fun q hq => by have h9 := hS.2.2 q hq; rw [hAe] at h9; exact h9) ?_
      refine W.widen (k := 600000) (n := 7302250) (Nat.le_of_ble_eq_true rfl) (Nat.le_of_ble_eq_true rfl) ?_
      exact lw_ret hx hb hr hlocks dL_law_1144
    · refine lv_tableIn (off := 309) (tgt := 342) hx hb dL_law_33 (by decide) (by decide) (by decide) (by decide) ?_
      refine lv_aload_n hx hb dL_law_342 rfl (lv_at hl 2 rfl) ?_
      refine lv_aload_n hx hb dL_law_343 rfl (lv_at hl 3 rfl) ?_
      refine lv_iload_n hx hb dL_law_344 rfl (lv_at hl 0 rfl) ?_
      refine lv_iconst (v := 1) hx hb dL_law_345 (by decide) ?_
      refine lv_iadd hx hb dL_law_346 ?_
      refine hz_ev 1 (by decide) ?_
      refine va_sld hx hb hX hbl hbA hS (by unfold vp_in; decide) dL_law_347 ?_
      refine hz_ev (xs 1) rfl ?_
      refine lv_aload_n hx hb dL_law_348 rfl (lv_at hl 3 rfl) ?_
      refine lv_iload_n hx hb dL_law_349 rfl (lv_at hl 0 rfl) ?_
      refine lv_iconst (v := 2) hx hb dL_law_350 (by decide) ?_
      refine lv_iadd hx hb dL_law_351 ?_
      refine hz_ev 2 (by decide) ?_
      refine va_sld hx hb hX hbl hbA hS (by unfold vp_in; decide) dL_law_352 ?_
      refine hz_ev (xs 2) rfl ?_
      refine va_calli (va_runV (As := [.int (xs 1), .int (xs 2)]) (rest := []) ⟨hx, hb, hml, hown, hT⟩ (c_X11_buyer l D cs kK kV g_3 r_4 (xs 1) (xs 2)) (cwV 2 hT (hz_gV q_451 q_452 q_453 q_174 q_454) rfl rfl rfl (by decide +kernel) ⟨(Nat.le_of_ble_eq_true rfl), (Nat.le_of_ble_eq_true rfl)⟩) ⟨hz_P.blind, va_recv hK hP (ci := 11) (q0 := 0) rfl rfl, hz_P.mk (hP.sub (ws' := [(g_3 0, .inr (11, [.ref (g_3 1), .ref (g_3 2), .ref (g_3 3), .ref (g_3 4), .int 0, .ref (g_3 5), .ref (g_3 6), .ref (g_3 7), .ref (g_3 8), .int 0, .int 0, .ref (g_3 9), .ref (g_3 10), .ref (g_3 11), .ref (g_3 12), .ref (g_3 13), .int 0])), (g_3 5, .inr (8, [.int 0, .int 0, .int 0, .int 0, .int 0, .int 12, .int 5, .int 1, .int 0, .ref (r_4 0), .ref (r_4 1), .ref (r_4 2), .ref (r_4 3), .ref (r_4 4), .ref (r_4 5), .ref (r_4 6), .ref (r_4 7), .ref (r_4 8)]))]) [0,5] rfl) hE hS⟩ rfl rfl hl.1 rfl (lv_room (Nat.le_of_ble_eq_true rfl)) dL_law_353 ⟨(Nat.le_of_ble_eq_true rfl), (Nat.le_of_ble_eq_true rfl)⟩) hS (fun _ _ h => h.elim) (fun _ h => h.elim) (fun r_22 u t H1 locs ht hvm hw hB hz1 hk1 hS => ?_)
      have hP := hz_keep hP hk1
      clear hk1 hB hz1
      generalize H1 = H at hP hS ⊢
      subst hw
      refine lv_aload_n hx hb dL_law_356 rfl (lv_at hl 1 rfl) ?_
      refine lv_aload_n hx hb dL_law_357 rfl (lv_at hl 3 rfl) ?_
      refine lv_iload_n hx hb dL_law_358 rfl (lv_at hl 0 rfl) ?_
      refine lv_iconst (v := 1) hx hb dL_law_359 (by decide) ?_
      refine lv_iadd hx hb dL_law_360 ?_
      refine hz_ev 1 (by decide) ?_
      refine va_sld hx hb hX hbl hbA hS (by unfold vp_in; decide) dL_law_361 ?_
      refine hz_ev (xs 1) rfl ?_
      refine lv_aload_n hx hb dL_law_362 rfl (lv_at hl 3 rfl) ?_
      refine lv_iload_n hx hb dL_law_363 rfl (lv_at hl 0 rfl) ?_
      refine lv_iconst (v := 2) hx hb dL_law_364 (by decide) ?_
      refine lv_iadd hx hb dL_law_365 ?_
      refine hz_ev 2 (by decide) ?_
      refine va_sld hx hb hX hbl hbA hS (by unfold vp_in; decide) dL_law_366 ?_
      refine hz_ev (xs 2) rfl ?_
      refine va_calli (va_runV (As := [.int (xs 1), .int (xs 2)]) (rest := [.int (-1)]) ⟨hx, hb, hml, hown, hT⟩ (c_X12_buyer l D cs kK kV g_7 (xs 1) (xs 2)) (cwV 2 hT (hz_gV q_455 q_456 q_457 q_252 q_458) rfl rfl rfl (by decide +kernel) ⟨(Nat.le_of_ble_eq_true rfl), (Nat.le_of_ble_eq_true rfl)⟩) ⟨hz_P.blind, va_recv hK hP (ci := 12) (q0 := 17) rfl rfl, hz_P.mk (hP.sub (ws' := [(g_7 0, .inr (12, [.ref (g_7 1), .int 0, .int 0, .ref (g_7 2), .ref (g_7 3), .ref (g_7 4), .ref (g_7 5), .ref (g_7 6), .int 0, .int 0, .int 0, .int 0, .int 0, .int 0, .int 0, .ref (g_7 7), .int 0, .ref (g_7 8), .int 0, .ref (g_7 9), .ref (g_7 10), .int 0, .ref (g_7 11), .ref (g_7 12), .ref (g_7 13), .int 0, .int 0, .ref (g_7 14), .ref (g_7 15), .int 0, .int 0, .int 0, .ref (g_7 16), .long 0, .ref (g_7 17), .ref (g_7 18), .ref (g_7 19)])), (g_7 10, .inl (cs 0, 123, .inl (fun _ => 0)))]) [17,22] rfl) hE hS⟩ rfl rfl hl.1 rfl (lv_room (Nat.le_of_ble_eq_true rfl)) dL_law_367 ⟨(Nat.le_of_ble_eq_true rfl), (Nat.le_of_ble_eq_true rfl)⟩) hS (fun _ _ h => h.elim) (fun _ h => h.elim) (fun r_23 u t H1 locs ht hvm hw hB hz1 hk1 hS => ?_)
      have hP := hz_keep hP hk1
      clear hk1 hB hz1
      generalize H1 = H at hP hS ⊢
      subst hw
      refine lv_icmp_eq (tgt := 1137) hx hb dL_law_370 (by decide) (fun _ => ?_) (fun z => absurd (by decide) z)
      refine lv_iinc (v := 6) (lv' := [(3, .int 6), (2, .ref (g_7 0)), (1, .ref (g_3 0)), (0, .ref b)]) hx hb dL_law_1137 hl (k := 0) rfl (by decide) (by decide) rfl (fun ls hl => ?_)
      refine lv_goto (tgt := 18) hx hb dL_law_1140 (by decide) ?_
      refine lv_iload_n hx hb dL_law_18 rfl (lv_at hl 0 rfl) ?_
      refine lv_aload_n hx hb dL_law_19 rfl (lv_at hl 3 rfl) ?_
      refine va_slen hx hb hX hbl hbA hS dL_law_20 ?_
      refine hz_ev 6 (by decide) ?_
      refine lv_bipush (v := 6) hx hb dL_law_21 (by decide) ?_
      refine lv_isub hx hb dL_law_23 ?_
      refine hz_ev 0 (by decide) ?_
      refine lv_icmp_gt (tgt := 1143) hx hb dL_law_24 (by decide) (fun _ => ?_) (fun z => absurd (by decide) z)
      refine lv_iconst (v := 1) hx hb dL_law_1143 (by decide) ?_
      refine va_forget (fun q hq => by have h9 := hS.2.2 q hq; rw [hAe] at h9; exact h9) ?_
      refine W.widen (k := 600000) (n := 7302250) (Nat.le_of_ble_eq_true rfl) (Nat.le_of_ble_eq_true rfl) ?_
      exact lw_ret hx hb hr hlocks dL_law_1144
    · refine lv_tableIn (off := 342) (tgt := 375) hx hb dL_law_33 (by decide) (by decide) (by decide) (by decide) ?_
      refine lv_aload_n hx hb dL_law_375 rfl (lv_at hl 2 rfl) ?_
      refine lv_aload_n hx hb dL_law_376 rfl (lv_at hl 3 rfl) ?_
      refine lv_iload_n hx hb dL_law_377 rfl (lv_at hl 0 rfl) ?_
      refine lv_iconst (v := 1) hx hb dL_law_378 (by decide) ?_
      refine lv_iadd hx hb dL_law_379 ?_
      refine hz_ev 1 (by decide) ?_
      refine va_sld hx hb hX hbl hbA hS (by unfold vp_in; decide) dL_law_380 ?_
      refine hz_ev (xs 1) rfl ?_
      refine lv_aload_n hx hb dL_law_381 rfl (lv_at hl 3 rfl) ?_
      refine lv_iload_n hx hb dL_law_382 rfl (lv_at hl 0 rfl) ?_
      refine lv_iconst (v := 2) hx hb dL_law_383 (by decide) ?_
      refine lv_iadd hx hb dL_law_384 ?_
      refine hz_ev 2 (by decide) ?_
      refine va_sld hx hb hX hbl hbA hS (by unfold vp_in; decide) dL_law_385 ?_
      refine hz_ev (xs 2) rfl ?_
      refine va_calli (va_runV (As := [.int (xs 1), .int (xs 2)]) (rest := []) ⟨hx, hb, hml, hown, hT⟩ (c_X11_spot l D cs kK kV g_3 r_4 (xs 1) (xs 2)) (cwV 2 hT (hz_gV q_459 q_460 q_461 q_174 q_462) rfl rfl rfl (by decide +kernel) ⟨(Nat.le_of_ble_eq_true rfl), (Nat.le_of_ble_eq_true rfl)⟩) ⟨hz_P.blind, va_recv hK hP (ci := 11) (q0 := 0) rfl rfl, hz_P.mk (hP.sub (ws' := [(g_3 0, .inr (11, [.ref (g_3 1), .ref (g_3 2), .ref (g_3 3), .ref (g_3 4), .int 0, .ref (g_3 5), .ref (g_3 6), .ref (g_3 7), .ref (g_3 8), .int 0, .int 0, .ref (g_3 9), .ref (g_3 10), .ref (g_3 11), .ref (g_3 12), .ref (g_3 13), .int 0])), (g_3 5, .inr (8, [.int 0, .int 0, .int 0, .int 0, .int 0, .int 12, .int 5, .int 1, .int 0, .ref (r_4 0), .ref (r_4 1), .ref (r_4 2), .ref (r_4 3), .ref (r_4 4), .ref (r_4 5), .ref (r_4 6), .ref (r_4 7), .ref (r_4 8)]))]) [0,5] rfl) hE hS⟩ rfl rfl hl.1 rfl (lv_room (Nat.le_of_ble_eq_true rfl)) dL_law_386 ⟨(Nat.le_of_ble_eq_true rfl), (Nat.le_of_ble_eq_true rfl)⟩) hS (fun _ _ h => h.elim) (fun _ h => h.elim) (fun r_24 u t H1 locs ht hvm hw hB hz1 hk1 hS => ?_)
      have hP := hz_keep hP hk1
      clear hk1 hB hz1
      generalize H1 = H at hP hS ⊢
      subst hw
      refine lv_aload_n hx hb dL_law_389 rfl (lv_at hl 1 rfl) ?_
      refine lv_aload_n hx hb dL_law_390 rfl (lv_at hl 3 rfl) ?_
      refine lv_iload_n hx hb dL_law_391 rfl (lv_at hl 0 rfl) ?_
      refine lv_iconst (v := 1) hx hb dL_law_392 (by decide) ?_
      refine lv_iadd hx hb dL_law_393 ?_
      refine hz_ev 1 (by decide) ?_
      refine va_sld hx hb hX hbl hbA hS (by unfold vp_in; decide) dL_law_394 ?_
      refine hz_ev (xs 1) rfl ?_
      refine lv_aload_n hx hb dL_law_395 rfl (lv_at hl 3 rfl) ?_
      refine lv_iload_n hx hb dL_law_396 rfl (lv_at hl 0 rfl) ?_
      refine lv_iconst (v := 2) hx hb dL_law_397 (by decide) ?_
      refine lv_iadd hx hb dL_law_398 ?_
      refine hz_ev 2 (by decide) ?_
      refine va_sld hx hb hX hbl hbA hS (by unfold vp_in; decide) dL_law_399 ?_
      refine hz_ev (xs 2) rfl ?_
      refine va_calli (va_runV (As := [.int (xs 1), .int (xs 2)]) (rest := [.int (-1)]) ⟨hx, hb, hml, hown, hT⟩ (c_X12_spot l D cs kK kV g_7 (xs 1) (xs 2)) (cwV 2 hT (hz_gV q_463 q_464 q_465 q_252 q_466) rfl rfl rfl (by decide +kernel) ⟨(Nat.le_of_ble_eq_true rfl), (Nat.le_of_ble_eq_true rfl)⟩) ⟨hz_P.blind, va_recv hK hP (ci := 12) (q0 := 17) rfl rfl, hz_P.mk (hP.sub (ws' := [(g_7 0, .inr (12, [.ref (g_7 1), .int 0, .int 0, .ref (g_7 2), .ref (g_7 3), .ref (g_7 4), .ref (g_7 5), .ref (g_7 6), .int 0, .int 0, .int 0, .int 0, .int 0, .int 0, .int 0, .ref (g_7 7), .int 0, .ref (g_7 8), .int 0, .ref (g_7 9), .ref (g_7 10), .int 0, .ref (g_7 11), .ref (g_7 12), .ref (g_7 13), .int 0, .int 0, .ref (g_7 14), .ref (g_7 15), .int 0, .int 0, .int 0, .ref (g_7 16), .long 0, .ref (g_7 17), .ref (g_7 18), .ref (g_7 19)])), (g_7 10, .inl (cs 0, 123, .inl (fun _ => 0)))]) [17,22] rfl) hE hS⟩ rfl rfl hl.1 rfl (lv_room (Nat.le_of_ble_eq_true rfl)) dL_law_400 ⟨(Nat.le_of_ble_eq_true rfl), (Nat.le_of_ble_eq_true rfl)⟩) hS (fun _ _ h => h.elim) (fun _ h => h.elim) (fun r_25 u t H1 locs ht hvm hw hB hz1 hk1 hS => ?_)
      have hP := hz_keep hP hk1
      clear hk1 hB hz1
      generalize H1 = H at hP hS ⊢
      subst hw
      refine lv_icmp_eq (tgt := 1137) hx hb dL_law_403 (by decide) (fun _ => ?_) (fun z => absurd (by decide) z)
      refine lv_iinc (v := 6) (lv' := [(3, .int 6), (2, .ref (g_7 0)), (1, .ref (g_3 0)), (0, .ref b)]) hx hb dL_law_1137 hl (k := 0) rfl (by decide) (by decide) rfl (fun ls hl => ?_)
      refine lv_goto (tgt := 18) hx hb dL_law_1140 (by decide) ?_
      refine lv_iload_n hx hb dL_law_18 rfl (lv_at hl 0 rfl) ?_
      refine lv_aload_n hx hb dL_law_19 rfl (lv_at hl 3 rfl) ?_
      refine va_slen hx hb hX hbl hbA hS dL_law_20 ?_
      refine hz_ev 6 (by decide) ?_
      refine lv_bipush (v := 6) hx hb dL_law_21 (by decide) ?_
      refine lv_isub hx hb dL_law_23 ?_
      refine hz_ev 0 (by decide) ?_
      refine lv_icmp_gt (tgt := 1143) hx hb dL_law_24 (by decide) (fun _ => ?_) (fun z => absurd (by decide) z)
      refine lv_iconst (v := 1) hx hb dL_law_1143 (by decide) ?_
      refine va_forget (fun q hq => by have h9 := hS.2.2 q hq; rw [hAe] at h9; exact h9) ?_
      refine W.widen (k := 600000) (n := 7302250) (Nat.le_of_ble_eq_true rfl) (Nat.le_of_ble_eq_true rfl) ?_
      exact lw_ret hx hb hr hlocks dL_law_1144
    · refine lv_tableIn (off := 375) (tgt := 408) hx hb dL_law_33 (by decide) (by decide) (by decide) (by decide) ?_
      refine lv_aload_n hx hb dL_law_408 rfl (lv_at hl 2 rfl) ?_
      refine lv_aload_n hx hb dL_law_409 rfl (lv_at hl 3 rfl) ?_
      refine lv_iload_n hx hb dL_law_410 rfl (lv_at hl 0 rfl) ?_
      refine lv_iconst (v := 1) hx hb dL_law_411 (by decide) ?_
      refine lv_iadd hx hb dL_law_412 ?_
      refine hz_ev 1 (by decide) ?_
      refine va_sld hx hb hX hbl hbA hS (by unfold vp_in; decide) dL_law_413 ?_
      refine hz_ev (xs 1) rfl ?_
      refine lv_aload_n hx hb dL_law_414 rfl (lv_at hl 3 rfl) ?_
      refine lv_iload_n hx hb dL_law_415 rfl (lv_at hl 0 rfl) ?_
      refine lv_iconst (v := 2) hx hb dL_law_416 (by decide) ?_
      refine lv_iadd hx hb dL_law_417 ?_
      refine hz_ev 2 (by decide) ?_
      refine va_sld hx hb hX hbl hbA hS (by unfold vp_in; decide) dL_law_418 ?_
      refine hz_ev (xs 2) rfl ?_
      refine va_calli (va_runV (As := [.int (xs 1), .int (xs 2)]) (rest := []) ⟨hx, hb, hml, hown, hT⟩ (c_X11_go l D cs kK kV g_3 r_4 (xs 1) (xs 2)) (cwV 2 hT (hz_gV q_467 q_468 q_469 q_174 q_470) rfl rfl rfl (by decide +kernel) ⟨(Nat.le_of_ble_eq_true rfl), (Nat.le_of_ble_eq_true rfl)⟩) ⟨hz_P.blind, va_recv hK hP (ci := 11) (q0 := 0) rfl rfl, hz_P.mk (hP.sub (ws' := [(g_3 0, .inr (11, [.ref (g_3 1), .ref (g_3 2), .ref (g_3 3), .ref (g_3 4), .int 0, .ref (g_3 5), .ref (g_3 6), .ref (g_3 7), .ref (g_3 8), .int 0, .int 0, .ref (g_3 9), .ref (g_3 10), .ref (g_3 11), .ref (g_3 12), .ref (g_3 13), .int 0])), (g_3 5, .inr (8, [.int 0, .int 0, .int 0, .int 0, .int 0, .int 12, .int 5, .int 1, .int 0, .ref (r_4 0), .ref (r_4 1), .ref (r_4 2), .ref (r_4 3), .ref (r_4 4), .ref (r_4 5), .ref (r_4 6), .ref (r_4 7), .ref (r_4 8)]))]) [0,5] rfl) hE hS⟩ rfl rfl hl.1 rfl (lv_room (Nat.le_of_ble_eq_true rfl)) dL_law_419 ⟨(Nat.le_of_ble_eq_true rfl), (Nat.le_of_ble_eq_true rfl)⟩) hS (fun _ _ h => h.elim) (fun _ h => h.elim) (fun r_26 u t H1 locs ht hvm hw hB hz1 hk1 hS => ?_)
      have hP := hz_keep hP hk1
      clear hk1 hB hz1
      generalize H1 = H at hP hS ⊢
      subst hw
      refine lv_aload_n hx hb dL_law_422 rfl (lv_at hl 1 rfl) ?_
      refine lv_aload_n hx hb dL_law_423 rfl (lv_at hl 3 rfl) ?_
      refine lv_iload_n hx hb dL_law_424 rfl (lv_at hl 0 rfl) ?_
      refine lv_iconst (v := 1) hx hb dL_law_425 (by decide) ?_
      refine lv_iadd hx hb dL_law_426 ?_
      refine hz_ev 1 (by decide) ?_
      refine va_sld hx hb hX hbl hbA hS (by unfold vp_in; decide) dL_law_427 ?_
      refine hz_ev (xs 1) rfl ?_
      refine lv_aload_n hx hb dL_law_428 rfl (lv_at hl 3 rfl) ?_
      refine lv_iload_n hx hb dL_law_429 rfl (lv_at hl 0 rfl) ?_
      refine lv_iconst (v := 2) hx hb dL_law_430 (by decide) ?_
      refine lv_iadd hx hb dL_law_431 ?_
      refine hz_ev 2 (by decide) ?_
      refine va_sld hx hb hX hbl hbA hS (by unfold vp_in; decide) dL_law_432 ?_
      refine hz_ev (xs 2) rfl ?_
      refine va_calli (va_runV (As := [.int (xs 1), .int (xs 2)]) (rest := [.int (-1)]) ⟨hx, hb, hml, hown, hT⟩ (c_X12_go l D cs kK kV g_7 (xs 1) (xs 2)) (cwV 2 hT (hz_gV q_471 q_472 q_473 q_252 q_474) rfl rfl rfl (by decide +kernel) ⟨(Nat.le_of_ble_eq_true rfl), (Nat.le_of_ble_eq_true rfl)⟩) ⟨hz_P.blind, va_recv hK hP (ci := 12) (q0 := 17) rfl rfl, hz_P.mk (hP.sub (ws' := [(g_7 0, .inr (12, [.ref (g_7 1), .int 0, .int 0, .ref (g_7 2), .ref (g_7 3), .ref (g_7 4), .ref (g_7 5), .ref (g_7 6), .int 0, .int 0, .int 0, .int 0, .int 0, .int 0, .int 0, .ref (g_7 7), .int 0, .ref (g_7 8), .int 0, .ref (g_7 9), .ref (g_7 10), .int 0, .ref (g_7 11), .ref (g_7 12), .ref (g_7 13), .int 0, .int 0, .ref (g_7 14), .ref (g_7 15), .int 0, .int 0, .int 0, .ref (g_7 16), .long 0, .ref (g_7 17), .ref (g_7 18), .ref (g_7 19)])), (g_7 10, .inl (cs 0, 123, .inl (fun _ => 0)))]) [17,22] rfl) hE hS⟩ rfl rfl hl.1 rfl (lv_room (Nat.le_of_ble_eq_true rfl)) dL_law_433 ⟨(Nat.le_of_ble_eq_true rfl), (Nat.le_of_ble_eq_true rfl)⟩) hS (fun _ _ h => h.elim) (fun _ h => h.elim) (fun r_27 u t H1 locs ht hvm hw hB hz1 hk1 hS => ?_)
      have hP := hz_keep hP hk1
      clear hk1 hB hz1
      generalize H1 = H at hP hS ⊢
      subst hw
      refine lv_icmp_eq (tgt := 1137) hx hb dL_law_436 (by decide) (fun _ => ?_) (fun z => absurd (by decide) z)
      refine lv_iinc (v := 6) (lv' := [(3, .int 6), (2, .ref (g_7 0)), (1, .ref (g_3 0)), (0, .ref b)]) hx hb dL_law_1137 hl (k := 0) rfl (by decide) (by decide) rfl (fun ls hl => ?_)
      refine lv_goto (tgt := 18) hx hb dL_law_1140 (by decide) ?_
      refine lv_iload_n hx hb dL_law_18 rfl (lv_at hl 0 rfl) ?_
      refine lv_aload_n hx hb dL_law_19 rfl (lv_at hl 3 rfl) ?_
      refine va_slen hx hb hX hbl hbA hS dL_law_20 ?_
      refine hz_ev 6 (by decide) ?_
      refine lv_bipush (v := 6) hx hb dL_law_21 (by decide) ?_
      refine lv_isub hx hb dL_law_23 ?_
      refine hz_ev 0 (by decide) ?_
      refine lv_icmp_gt (tgt := 1143) hx hb dL_law_24 (by decide) (fun _ => ?_) (fun z => absurd (by decide) z)
      refine lv_iconst (v := 1) hx hb dL_law_1143 (by decide) ?_
      refine va_forget (fun q hq => by have h9 := hS.2.2 q hq; rw [hAe] at h9; exact h9) ?_
      refine W.widen (k := 600000) (n := 7302250) (Nat.le_of_ble_eq_true rfl) (Nat.le_of_ble_eq_true rfl) ?_
      exact lw_ret hx hb hr hlocks dL_law_1144
    · refine lv_tableIn (off := 408) (tgt := 441) hx hb dL_law_33 (by decide) (by decide) (by decide) (by decide) ?_
      refine lv_aload_n hx hb dL_law_441 rfl (lv_at hl 2 rfl) ?_
      refine lv_aload_n hx hb dL_law_442 rfl (lv_at hl 3 rfl) ?_
      refine lv_iload_n hx hb dL_law_443 rfl (lv_at hl 0 rfl) ?_
      refine lv_iconst (v := 1) hx hb dL_law_444 (by decide) ?_
      refine lv_iadd hx hb dL_law_445 ?_
      refine hz_ev 1 (by decide) ?_
      refine va_sld hx hb hX hbl hbA hS (by unfold vp_in; decide) dL_law_446 ?_
      refine hz_ev (xs 1) rfl ?_
      refine lv_aload_n hx hb dL_law_447 rfl (lv_at hl 3 rfl) ?_
      refine lv_iload_n hx hb dL_law_448 rfl (lv_at hl 0 rfl) ?_
      refine lv_iconst (v := 2) hx hb dL_law_449 (by decide) ?_
      refine lv_iadd hx hb dL_law_450 ?_
      refine hz_ev 2 (by decide) ?_
      refine va_sld hx hb hX hbl hbA hS (by unfold vp_in; decide) dL_law_451 ?_
      refine hz_ev (xs 2) rfl ?_
      refine va_calli (va_runV (As := [.int (xs 1), .int (xs 2)]) (rest := []) ⟨hx, hb, hml, hown, hT⟩ (c_X11_buy l D cs kK kV g_3 r_4 (xs 1) (xs 2)) (cwV 2 hT (hz_gV q_475 q_476 q_477 q_174 q_478) rfl rfl rfl (by decide +kernel) ⟨(Nat.le_of_ble_eq_true rfl), (Nat.le_of_ble_eq_true rfl)⟩) ⟨hz_P.blind, va_recv hK hP (ci := 11) (q0 := 0) rfl rfl, hz_P.mk (hP.sub (ws' := [(g_3 0, .inr (11, [.ref (g_3 1), .ref (g_3 2), .ref (g_3 3), .ref (g_3 4), .int 0, .ref (g_3 5), .ref (g_3 6), .ref (g_3 7), .ref (g_3 8), .int 0, .int 0, .ref (g_3 9), .ref (g_3 10), .ref (g_3 11), .ref (g_3 12), .ref (g_3 13), .int 0])), (g_3 5, .inr (8, [.int 0, .int 0, .int 0, .int 0, .int 0, .int 12, .int 5, .int 1, .int 0, .ref (r_4 0), .ref (r_4 1), .ref (r_4 2), .ref (r_4 3), .ref (r_4 4), .ref (r_4 5), .ref (r_4 6), .ref (r_4 7), .ref (r_4 8)]))]) [0,5] rfl) hE hS⟩ rfl rfl hl.1 rfl (lv_room (Nat.le_of_ble_eq_true rfl)) dL_law_452 ⟨(Nat.le_of_ble_eq_true rfl), (Nat.le_of_ble_eq_true rfl)⟩) hS (fun _ _ h => h.elim) (fun _ h => h.elim) (fun r_28 u t H1 locs ht hvm hw hB hz1 hk1 hS => ?_)
      have hP := hz_keep hP hk1
      clear hk1 hB hz1
      generalize H1 = H at hP hS ⊢
      subst hw
      refine lv_aload_n hx hb dL_law_455 rfl (lv_at hl 1 rfl) ?_
      refine lv_aload_n hx hb dL_law_456 rfl (lv_at hl 3 rfl) ?_
      refine lv_iload_n hx hb dL_law_457 rfl (lv_at hl 0 rfl) ?_
      refine lv_iconst (v := 1) hx hb dL_law_458 (by decide) ?_
      refine lv_iadd hx hb dL_law_459 ?_
      refine hz_ev 1 (by decide) ?_
      refine va_sld hx hb hX hbl hbA hS (by unfold vp_in; decide) dL_law_460 ?_
      refine hz_ev (xs 1) rfl ?_
      refine lv_aload_n hx hb dL_law_461 rfl (lv_at hl 3 rfl) ?_
      refine lv_iload_n hx hb dL_law_462 rfl (lv_at hl 0 rfl) ?_
      refine lv_iconst (v := 2) hx hb dL_law_463 (by decide) ?_
      refine lv_iadd hx hb dL_law_464 ?_
      refine hz_ev 2 (by decide) ?_
      refine va_sld hx hb hX hbl hbA hS (by unfold vp_in; decide) dL_law_465 ?_
      refine hz_ev (xs 2) rfl ?_
      refine va_calli (va_runV (As := [.int (xs 1), .int (xs 2)]) (rest := [.int (-1)]) ⟨hx, hb, hml, hown, hT⟩ (c_X12_buy l D cs kK kV g_7 (xs 1) (xs 2)) (cwV 2 hT (hz_gV q_479 q_480 q_481 q_252 q_482) rfl rfl rfl (by decide +kernel) ⟨(Nat.le_of_ble_eq_true rfl), (Nat.le_of_ble_eq_true rfl)⟩) ⟨hz_P.blind, va_recv hK hP (ci := 12) (q0 := 17) rfl rfl, hz_P.mk (hP.sub (ws' := [(g_7 0, .inr (12, [.ref (g_7 1), .int 0, .int 0, .ref (g_7 2), .ref (g_7 3), .ref (g_7 4), .ref (g_7 5), .ref (g_7 6), .int 0, .int 0, .int 0, .int 0, .int 0, .int 0, .int 0, .ref (g_7 7), .int 0, .ref (g_7 8), .int 0, .ref (g_7 9), .ref (g_7 10), .int 0, .ref (g_7 11), .ref (g_7 12), .ref (g_7 13), .int 0, .int 0, .ref (g_7 14), .ref (g_7 15), .int 0, .int 0, .int 0, .ref (g_7 16), .long 0, .ref (g_7 17), .ref (g_7 18), .ref (g_7 19)])), (g_7 10, .inl (cs 0, 123, .inl (fun _ => 0)))]) [17,22] rfl) hE hS⟩ rfl rfl hl.1 rfl (lv_room (Nat.le_of_ble_eq_true rfl)) dL_law_466 ⟨(Nat.le_of_ble_eq_true rfl), (Nat.le_of_ble_eq_true rfl)⟩) hS (fun _ _ h => h.elim) (fun _ h => h.elim) (fun r_29 u t H1 locs ht hvm hw hB hz1 hk1 hS => ?_)
      have hP := hz_keep hP hk1
      clear hk1 hB hz1
      generalize H1 = H at hP hS ⊢
      subst hw
      refine lv_icmp_eq (tgt := 1137) hx hb dL_law_469 (by decide) (fun _ => ?_) (fun z => absurd (by decide) z)
      refine lv_iinc (v := 6) (lv' := [(3, .int 6), (2, .ref (g_7 0)), (1, .ref (g_3 0)), (0, .ref b)]) hx hb dL_law_1137 hl (k := 0) rfl (by decide) (by decide) rfl (fun ls hl => ?_)
      refine lv_goto (tgt := 18) hx hb dL_law_1140 (by decide) ?_
      refine lv_iload_n hx hb dL_law_18 rfl (lv_at hl 0 rfl) ?_
      refine lv_aload_n hx hb dL_law_19 rfl (lv_at hl 3 rfl) ?_
      refine va_slen hx hb hX hbl hbA hS dL_law_20 ?_
      refine hz_ev 6 (by decide) ?_
      refine lv_bipush (v := 6) hx hb dL_law_21 (by decide) ?_
      refine lv_isub hx hb dL_law_23 ?_
      refine hz_ev 0 (by decide) ?_
      refine lv_icmp_gt (tgt := 1143) hx hb dL_law_24 (by decide) (fun _ => ?_) (fun z => absurd (by decide) z)
      refine lv_iconst (v := 1) hx hb dL_law_1143 (by decide) ?_
      refine va_forget (fun q hq => by have h9 := hS.2.2 q hq; rw [hAe] at h9; exact h9) ?_
      refine W.widen (k := 600000) (n := 7302250) (Nat.le_of_ble_eq_true rfl) (Nat.le_of_ble_eq_true rfl) ?_
      exact lw_ret hx hb hr hlocks dL_law_1144
    · refine lv_tableIn (off := 441) (tgt := 474) hx hb dL_law_33 (by decide) (by decide) (by decide) (by decide) ?_
      refine lv_aload_n hx hb dL_law_474 rfl (lv_at hl 2 rfl) ?_
      refine lv_aload_n hx hb dL_law_475 rfl (lv_at hl 3 rfl) ?_
      refine lv_iload_n hx hb dL_law_476 rfl (lv_at hl 0 rfl) ?_
      refine lv_iconst (v := 1) hx hb dL_law_477 (by decide) ?_
      refine lv_iadd hx hb dL_law_478 ?_
      refine hz_ev 1 (by decide) ?_
      refine va_sld hx hb hX hbl hbA hS (by unfold vp_in; decide) dL_law_479 ?_
      refine hz_ev (xs 1) rfl ?_
      refine lv_aload_n hx hb dL_law_480 rfl (lv_at hl 3 rfl) ?_
      refine lv_iload_n hx hb dL_law_481 rfl (lv_at hl 0 rfl) ?_
      refine lv_iconst (v := 2) hx hb dL_law_482 (by decide) ?_
      refine lv_iadd hx hb dL_law_483 ?_
      refine hz_ev 2 (by decide) ?_
      refine va_sld hx hb hX hbl hbA hS (by unfold vp_in; decide) dL_law_484 ?_
      refine hz_ev (xs 2) rfl ?_
      refine va_calli (va_runV (As := [.int (xs 1), .int (xs 2)]) (rest := []) ⟨hx, hb, hml, hown, hT⟩ (c_X11_shout l D cs kK kV g_3 r_4 (xs 1) (xs 2)) (cwV 2 hT (hz_gV q_483 q_484 q_485 q_174 q_486) rfl rfl rfl (by decide +kernel) ⟨(Nat.le_of_ble_eq_true rfl), (Nat.le_of_ble_eq_true rfl)⟩) ⟨hz_P.blind, va_recv hK hP (ci := 11) (q0 := 0) rfl rfl, hz_P.mk (hP.sub (ws' := [(g_3 0, .inr (11, [.ref (g_3 1), .ref (g_3 2), .ref (g_3 3), .ref (g_3 4), .int 0, .ref (g_3 5), .ref (g_3 6), .ref (g_3 7), .ref (g_3 8), .int 0, .int 0, .ref (g_3 9), .ref (g_3 10), .ref (g_3 11), .ref (g_3 12), .ref (g_3 13), .int 0])), (g_3 5, .inr (8, [.int 0, .int 0, .int 0, .int 0, .int 0, .int 12, .int 5, .int 1, .int 0, .ref (r_4 0), .ref (r_4 1), .ref (r_4 2), .ref (r_4 3), .ref (r_4 4), .ref (r_4 5), .ref (r_4 6), .ref (r_4 7), .ref (r_4 8)]))]) [0,5] rfl) hE hS⟩ rfl rfl hl.1 rfl (lv_room (Nat.le_of_ble_eq_true rfl)) dL_law_485 ⟨(Nat.le_of_ble_eq_true rfl), (Nat.le_of_ble_eq_true rfl)⟩) hS (fun _ _ h => h.elim) (fun _ h => h.elim) (fun r_30 u t H1 locs ht hvm hw hB hz1 hk1 hS => ?_)
      have hP := hz_keep hP hk1
      clear hk1 hB hz1
      generalize H1 = H at hP hS ⊢
      subst hw
      refine lv_aload_n hx hb dL_law_488 rfl (lv_at hl 1 rfl) ?_
      refine lv_aload_n hx hb dL_law_489 rfl (lv_at hl 3 rfl) ?_
      refine lv_iload_n hx hb dL_law_490 rfl (lv_at hl 0 rfl) ?_
      refine lv_iconst (v := 1) hx hb dL_law_491 (by decide) ?_
      refine lv_iadd hx hb dL_law_492 ?_
      refine hz_ev 1 (by decide) ?_
      refine va_sld hx hb hX hbl hbA hS (by unfold vp_in; decide) dL_law_493 ?_
      refine hz_ev (xs 1) rfl ?_
      refine lv_aload_n hx hb dL_law_494 rfl (lv_at hl 3 rfl) ?_
      refine lv_iload_n hx hb dL_law_495 rfl (lv_at hl 0 rfl) ?_
      refine lv_iconst (v := 2) hx hb dL_law_496 (by decide) ?_
      refine lv_iadd hx hb dL_law_497 ?_
      refine hz_ev 2 (by decide) ?_
      refine va_sld hx hb hX hbl hbA hS (by unfold vp_in; decide) dL_law_498 ?_
      refine hz_ev (xs 2) rfl ?_
      refine va_calli (va_runV (As := [.int (xs 1), .int (xs 2)]) (rest := [.int (-1)]) ⟨hx, hb, hml, hown, hT⟩ (c_X12_shout l D cs kK kV g_7 (xs 1) (xs 2)) (cwV 2 hT (hz_gV q_487 q_488 q_489 q_252 q_490) rfl rfl rfl (by decide +kernel) ⟨(Nat.le_of_ble_eq_true rfl), (Nat.le_of_ble_eq_true rfl)⟩) ⟨hz_P.blind, va_recv hK hP (ci := 12) (q0 := 17) rfl rfl, hz_P.mk (hP.sub (ws' := [(g_7 0, .inr (12, [.ref (g_7 1), .int 0, .int 0, .ref (g_7 2), .ref (g_7 3), .ref (g_7 4), .ref (g_7 5), .ref (g_7 6), .int 0, .int 0, .int 0, .int 0, .int 0, .int 0, .int 0, .ref (g_7 7), .int 0, .ref (g_7 8), .int 0, .ref (g_7 9), .ref (g_7 10), .int 0, .ref (g_7 11), .ref (g_7 12), .ref (g_7 13), .int 0, .int 0, .ref (g_7 14), .ref (g_7 15), .int 0, .int 0, .int 0, .ref (g_7 16), .long 0, .ref (g_7 17), .ref (g_7 18), .ref (g_7 19)])), (g_7 10, .inl (cs 0, 123, .inl (fun _ => 0)))]) [17,22] rfl) hE hS⟩ rfl rfl hl.1 rfl (lv_room (Nat.le_of_ble_eq_true rfl)) dL_law_499 ⟨(Nat.le_of_ble_eq_true rfl), (Nat.le_of_ble_eq_true rfl)⟩) hS (fun _ _ h => h.elim) (fun _ h => h.elim) (fun r_31 u t H1 locs ht hvm hw hB hz1 hk1 hS => ?_)
      have hP := hz_keep hP hk1
      clear hk1 hB hz1
      generalize H1 = H at hP hS ⊢
      subst hw
      refine lv_icmp_eq (tgt := 1137) hx hb dL_law_502 (by decide) (fun _ => ?_) (fun z => absurd (by decide) z)
      refine lv_iinc (v := 6) (lv' := [(3, .int 6), (2, .ref (g_7 0)), (1, .ref (g_3 0)), (0, .ref b)]) hx hb dL_law_1137 hl (k := 0) rfl (by decide) (by decide) rfl (fun ls hl => ?_)
      refine lv_goto (tgt := 18) hx hb dL_law_1140 (by decide) ?_
      refine lv_iload_n hx hb dL_law_18 rfl (lv_at hl 0 rfl) ?_
      refine lv_aload_n hx hb dL_law_19 rfl (lv_at hl 3 rfl) ?_
      refine va_slen hx hb hX hbl hbA hS dL_law_20 ?_
      refine hz_ev 6 (by decide) ?_
      refine lv_bipush (v := 6) hx hb dL_law_21 (by decide) ?_
      refine lv_isub hx hb dL_law_23 ?_
      refine hz_ev 0 (by decide) ?_
      refine lv_icmp_gt (tgt := 1143) hx hb dL_law_24 (by decide) (fun _ => ?_) (fun z => absurd (by decide) z)
      refine lv_iconst (v := 1) hx hb dL_law_1143 (by decide) ?_
      refine va_forget (fun q hq => by have h9 := hS.2.2 q hq; rw [hAe] at h9; exact h9) ?_
      refine W.widen (k := 600000) (n := 7302250) (Nat.le_of_ble_eq_true rfl) (Nat.le_of_ble_eq_true rfl) ?_
      exact lw_ret hx hb hr hlocks dL_law_1144
    · refine lv_tableIn (off := 474) (tgt := 507) hx hb dL_law_33 (by decide) (by decide) (by decide) (by decide) ?_
      refine lv_aload_n hx hb dL_law_507 rfl (lv_at hl 2 rfl) ?_
      refine lv_aload_n hx hb dL_law_508 rfl (lv_at hl 3 rfl) ?_
      refine lv_iload_n hx hb dL_law_509 rfl (lv_at hl 0 rfl) ?_
      refine lv_iconst (v := 1) hx hb dL_law_510 (by decide) ?_
      refine lv_iadd hx hb dL_law_511 ?_
      refine hz_ev 1 (by decide) ?_
      refine va_sld hx hb hX hbl hbA hS (by unfold vp_in; decide) dL_law_512 ?_
      refine hz_ev (xs 1) rfl ?_
      refine lv_aload_n hx hb dL_law_513 rfl (lv_at hl 3 rfl) ?_
      refine lv_iload_n hx hb dL_law_514 rfl (lv_at hl 0 rfl) ?_
      refine lv_iconst (v := 2) hx hb dL_law_515 (by decide) ?_
      refine lv_iadd hx hb dL_law_516 ?_
      refine hz_ev 2 (by decide) ?_
      refine va_sld hx hb hX hbl hbA hS (by unfold vp_in; decide) dL_law_517 ?_
      refine hz_ev (xs 2) rfl ?_
      refine lv_aload_n hx hb dL_law_518 rfl (lv_at hl 3 rfl) ?_
      refine lv_iload_n hx hb dL_law_519 rfl (lv_at hl 0 rfl) ?_
      refine lv_iconst (v := 3) hx hb dL_law_520 (by decide) ?_
      refine lv_iadd hx hb dL_law_521 ?_
      refine hz_ev 3 (by decide) ?_
      refine va_sld hx hb hX hbl hbA hS (by unfold vp_in; decide) dL_law_522 ?_
      refine hz_ev (xs 3) rfl ?_
      refine lv_aload_n hx hb dL_law_523 rfl (lv_at hl 3 rfl) ?_
      refine lv_iload_n hx hb dL_law_524 rfl (lv_at hl 0 rfl) ?_
      refine lv_iconst (v := 4) hx hb dL_law_525 (by decide) ?_
      refine lv_iadd hx hb dL_law_526 ?_
      refine hz_ev 4 (by decide) ?_
      refine va_sld hx hb hX hbl hbA hS (by unfold vp_in; decide) dL_law_527 ?_
      refine hz_ev (xs 4) rfl ?_
      refine va_calli (va_runV (As := [.int (xs 1), .int (xs 2), .int (xs 3), .int (xs 4)]) (rest := []) ⟨hx, hb, hml, hown, hT⟩ (c_X11_swap l D cs kK kV g_3 r_4 (xs 1) (xs 2) (xs 3) (xs 4)) (cwV 4 hT (hz_gV q_491 q_492 q_493 q_174 q_494) rfl rfl rfl (by decide +kernel) ⟨(Nat.le_of_ble_eq_true rfl), (Nat.le_of_ble_eq_true rfl)⟩) ⟨hz_P.blind, va_recv hK hP (ci := 11) (q0 := 0) rfl rfl, hz_P.mk (hP.sub (ws' := [(g_3 0, .inr (11, [.ref (g_3 1), .ref (g_3 2), .ref (g_3 3), .ref (g_3 4), .int 0, .ref (g_3 5), .ref (g_3 6), .ref (g_3 7), .ref (g_3 8), .int 0, .int 0, .ref (g_3 9), .ref (g_3 10), .ref (g_3 11), .ref (g_3 12), .ref (g_3 13), .int 0])), (g_3 5, .inr (8, [.int 0, .int 0, .int 0, .int 0, .int 0, .int 12, .int 5, .int 1, .int 0, .ref (r_4 0), .ref (r_4 1), .ref (r_4 2), .ref (r_4 3), .ref (r_4 4), .ref (r_4 5), .ref (r_4 6), .ref (r_4 7), .ref (r_4 8)]))]) [0,5] rfl) hE hS⟩ rfl rfl hl.1 rfl (lv_room (Nat.le_of_ble_eq_true rfl)) dL_law_528 ⟨(Nat.le_of_ble_eq_true rfl), (Nat.le_of_ble_eq_true rfl)⟩) hS (fun _ _ h => h.elim) (fun _ h => h.elim) (fun r_32 u t H1 locs ht hvm hw hB hz1 hk1 hS => ?_)
      have hP := hz_keep hP hk1
      clear hk1 hB hz1
      generalize H1 = H at hP hS ⊢
      subst hw
      refine lv_aload_n hx hb dL_law_531 rfl (lv_at hl 1 rfl) ?_
      refine lv_aload_n hx hb dL_law_532 rfl (lv_at hl 3 rfl) ?_
      refine lv_iload_n hx hb dL_law_533 rfl (lv_at hl 0 rfl) ?_
      refine lv_iconst (v := 1) hx hb dL_law_534 (by decide) ?_
      refine lv_iadd hx hb dL_law_535 ?_
      refine hz_ev 1 (by decide) ?_
      refine va_sld hx hb hX hbl hbA hS (by unfold vp_in; decide) dL_law_536 ?_
      refine hz_ev (xs 1) rfl ?_
      refine lv_aload_n hx hb dL_law_537 rfl (lv_at hl 3 rfl) ?_
      refine lv_iload_n hx hb dL_law_538 rfl (lv_at hl 0 rfl) ?_
      refine lv_iconst (v := 2) hx hb dL_law_539 (by decide) ?_
      refine lv_iadd hx hb dL_law_540 ?_
      refine hz_ev 2 (by decide) ?_
      refine va_sld hx hb hX hbl hbA hS (by unfold vp_in; decide) dL_law_541 ?_
      refine hz_ev (xs 2) rfl ?_
      refine lv_aload_n hx hb dL_law_542 rfl (lv_at hl 3 rfl) ?_
      refine lv_iload_n hx hb dL_law_543 rfl (lv_at hl 0 rfl) ?_
      refine lv_iconst (v := 3) hx hb dL_law_544 (by decide) ?_
      refine lv_iadd hx hb dL_law_545 ?_
      refine hz_ev 3 (by decide) ?_
      refine va_sld hx hb hX hbl hbA hS (by unfold vp_in; decide) dL_law_546 ?_
      refine hz_ev (xs 3) rfl ?_
      refine lv_aload_n hx hb dL_law_547 rfl (lv_at hl 3 rfl) ?_
      refine lv_iload_n hx hb dL_law_548 rfl (lv_at hl 0 rfl) ?_
      refine lv_iconst (v := 4) hx hb dL_law_549 (by decide) ?_
      refine lv_iadd hx hb dL_law_550 ?_
      refine hz_ev 4 (by decide) ?_
      refine va_sld hx hb hX hbl hbA hS (by unfold vp_in; decide) dL_law_551 ?_
      refine hz_ev (xs 4) rfl ?_
      refine va_calli (va_runV (As := [.int (xs 1), .int (xs 2), .int (xs 3), .int (xs 4)]) (rest := [.int 0]) ⟨hx, hb, hml, hown, hT⟩ (c_X12_swap l D cs kK kV g_7 (xs 1) (xs 2) (xs 3) (xs 4)) (cwV 4 hT (hz_gV q_495 q_496 q_497 q_252 q_498) rfl rfl rfl (by decide +kernel) ⟨(Nat.le_of_ble_eq_true rfl), (Nat.le_of_ble_eq_true rfl)⟩) ⟨hz_P.blind, va_recv hK hP (ci := 12) (q0 := 17) rfl rfl, hz_P.mk (hP.sub (ws' := [(g_7 0, .inr (12, [.ref (g_7 1), .int 0, .int 0, .ref (g_7 2), .ref (g_7 3), .ref (g_7 4), .ref (g_7 5), .ref (g_7 6), .int 0, .int 0, .int 0, .int 0, .int 0, .int 0, .int 0, .ref (g_7 7), .int 0, .ref (g_7 8), .int 0, .ref (g_7 9), .ref (g_7 10), .int 0, .ref (g_7 11), .ref (g_7 12), .ref (g_7 13), .int 0, .int 0, .ref (g_7 14), .ref (g_7 15), .int 0, .int 0, .int 0, .ref (g_7 16), .long 0, .ref (g_7 17), .ref (g_7 18), .ref (g_7 19)])), (g_7 10, .inl (cs 0, 123, .inl (fun _ => 0)))]) [17,22] rfl) hE hS⟩ rfl rfl hl.1 rfl (lv_room (Nat.le_of_ble_eq_true rfl)) dL_law_552 ⟨(Nat.le_of_ble_eq_true rfl), (Nat.le_of_ble_eq_true rfl)⟩) hS (fun _ _ h => h.elim) (fun _ h => h.elim) (fun r_33 u t H1 locs ht hvm hw hB hz1 hk1 hS => ?_)
      have hP := hz_keep hP hk1
      clear hk1 hB hz1
      generalize H1 = H at hP hS ⊢
      subst hw
      refine lv_icmp_eq (tgt := 1137) hx hb dL_law_555 (by decide) (fun _ => ?_) (fun z => absurd (by decide) z)
      refine lv_iinc (v := 6) (lv' := [(3, .int 6), (2, .ref (g_7 0)), (1, .ref (g_3 0)), (0, .ref b)]) hx hb dL_law_1137 hl (k := 0) rfl (by decide) (by decide) rfl (fun ls hl => ?_)
      refine lv_goto (tgt := 18) hx hb dL_law_1140 (by decide) ?_
      refine lv_iload_n hx hb dL_law_18 rfl (lv_at hl 0 rfl) ?_
      refine lv_aload_n hx hb dL_law_19 rfl (lv_at hl 3 rfl) ?_
      refine va_slen hx hb hX hbl hbA hS dL_law_20 ?_
      refine hz_ev 6 (by decide) ?_
      refine lv_bipush (v := 6) hx hb dL_law_21 (by decide) ?_
      refine lv_isub hx hb dL_law_23 ?_
      refine hz_ev 0 (by decide) ?_
      refine lv_icmp_gt (tgt := 1143) hx hb dL_law_24 (by decide) (fun _ => ?_) (fun z => absurd (by decide) z)
      refine lv_iconst (v := 1) hx hb dL_law_1143 (by decide) ?_
      refine va_forget (fun q hq => by have h9 := hS.2.2 q hq; rw [hAe] at h9; exact h9) ?_
      refine W.widen (k := 600000) (n := 7302250) (Nat.le_of_ble_eq_true rfl) (Nat.le_of_ble_eq_true rfl) ?_
      exact lw_ret hx hb hr hlocks dL_law_1144
    · refine lv_tableIn (off := 527) (tgt := 560) hx hb dL_law_33 (by decide) (by decide) (by decide) (by decide) ?_
      refine lv_aload_n hx hb dL_law_560 rfl (lv_at hl 2 rfl) ?_
      refine lv_aload_n hx hb dL_law_561 rfl (lv_at hl 3 rfl) ?_
      refine lv_iload_n hx hb dL_law_562 rfl (lv_at hl 0 rfl) ?_
      refine lv_iconst (v := 1) hx hb dL_law_563 (by decide) ?_
      refine lv_iadd hx hb dL_law_564 ?_
      refine hz_ev 1 (by decide) ?_
      refine va_sld hx hb hX hbl hbA hS (by unfold vp_in; decide) dL_law_565 ?_
      refine hz_ev (xs 1) rfl ?_
      refine lv_aload_n hx hb dL_law_566 rfl (lv_at hl 3 rfl) ?_
      refine lv_iload_n hx hb dL_law_567 rfl (lv_at hl 0 rfl) ?_
      refine lv_iconst (v := 2) hx hb dL_law_568 (by decide) ?_
      refine lv_iadd hx hb dL_law_569 ?_
      refine hz_ev 2 (by decide) ?_
      refine va_sld hx hb hX hbl hbA hS (by unfold vp_in; decide) dL_law_570 ?_
      refine hz_ev (xs 2) rfl ?_
      refine va_calli (va_runV (As := [.int (xs 1), .int (xs 2)]) (rest := []) ⟨hx, hb, hml, hown, hT⟩ (c_X11_giveUp l D cs kK kV g_3 r_4 (xs 1) (xs 2)) (cwV 2 hT (hz_gV q_499 q_500 q_501 q_174 q_502) rfl rfl rfl (by decide +kernel) ⟨(Nat.le_of_ble_eq_true rfl), (Nat.le_of_ble_eq_true rfl)⟩) ⟨hz_P.blind, va_recv hK hP (ci := 11) (q0 := 0) rfl rfl, hz_P.mk (hP.sub (ws' := [(g_3 0, .inr (11, [.ref (g_3 1), .ref (g_3 2), .ref (g_3 3), .ref (g_3 4), .int 0, .ref (g_3 5), .ref (g_3 6), .ref (g_3 7), .ref (g_3 8), .int 0, .int 0, .ref (g_3 9), .ref (g_3 10), .ref (g_3 11), .ref (g_3 12), .ref (g_3 13), .int 0])), (g_3 5, .inr (8, [.int 0, .int 0, .int 0, .int 0, .int 0, .int 12, .int 5, .int 1, .int 0, .ref (r_4 0), .ref (r_4 1), .ref (r_4 2), .ref (r_4 3), .ref (r_4 4), .ref (r_4 5), .ref (r_4 6), .ref (r_4 7), .ref (r_4 8)]))]) [0,5] rfl) hE hS⟩ rfl rfl hl.1 rfl (lv_room (Nat.le_of_ble_eq_true rfl)) dL_law_571 ⟨(Nat.le_of_ble_eq_true rfl), (Nat.le_of_ble_eq_true rfl)⟩) hS (fun _ _ h => h.elim) (fun _ h => h.elim) (fun r_34 u t H1 locs ht hvm hw hB hz1 hk1 hS => ?_)
      have hP := hz_keep hP hk1
      clear hk1 hB hz1
      generalize H1 = H at hP hS ⊢
      subst hw
      refine lv_aload_n hx hb dL_law_574 rfl (lv_at hl 1 rfl) ?_
      refine lv_aload_n hx hb dL_law_575 rfl (lv_at hl 3 rfl) ?_
      refine lv_iload_n hx hb dL_law_576 rfl (lv_at hl 0 rfl) ?_
      refine lv_iconst (v := 1) hx hb dL_law_577 (by decide) ?_
      refine lv_iadd hx hb dL_law_578 ?_
      refine hz_ev 1 (by decide) ?_
      refine va_sld hx hb hX hbl hbA hS (by unfold vp_in; decide) dL_law_579 ?_
      refine hz_ev (xs 1) rfl ?_
      refine lv_aload_n hx hb dL_law_580 rfl (lv_at hl 3 rfl) ?_
      refine lv_iload_n hx hb dL_law_581 rfl (lv_at hl 0 rfl) ?_
      refine lv_iconst (v := 2) hx hb dL_law_582 (by decide) ?_
      refine lv_iadd hx hb dL_law_583 ?_
      refine hz_ev 2 (by decide) ?_
      refine va_sld hx hb hX hbl hbA hS (by unfold vp_in; decide) dL_law_584 ?_
      refine hz_ev (xs 2) rfl ?_
      refine va_calli (va_runV (As := [.int (xs 1), .int (xs 2)]) (rest := [.int (-1)]) ⟨hx, hb, hml, hown, hT⟩ (c_X12_giveUp l D cs kK kV g_7 (xs 1) (xs 2)) (cwV 2 hT (hz_gV q_503 q_504 q_505 q_252 q_506) rfl rfl rfl (by decide +kernel) ⟨(Nat.le_of_ble_eq_true rfl), (Nat.le_of_ble_eq_true rfl)⟩) ⟨hz_P.blind, va_recv hK hP (ci := 12) (q0 := 17) rfl rfl, hz_P.mk (hP.sub (ws' := [(g_7 0, .inr (12, [.ref (g_7 1), .int 0, .int 0, .ref (g_7 2), .ref (g_7 3), .ref (g_7 4), .ref (g_7 5), .ref (g_7 6), .int 0, .int 0, .int 0, .int 0, .int 0, .int 0, .int 0, .ref (g_7 7), .int 0, .ref (g_7 8), .int 0, .ref (g_7 9), .ref (g_7 10), .int 0, .ref (g_7 11), .ref (g_7 12), .ref (g_7 13), .int 0, .int 0, .ref (g_7 14), .ref (g_7 15), .int 0, .int 0, .int 0, .ref (g_7 16), .long 0, .ref (g_7 17), .ref (g_7 18), .ref (g_7 19)])), (g_7 10, .inl (cs 0, 123, .inl (fun _ => 0)))]) [17,22] rfl) hE hS⟩ rfl rfl hl.1 rfl (lv_room (Nat.le_of_ble_eq_true rfl)) dL_law_585 ⟨(Nat.le_of_ble_eq_true rfl), (Nat.le_of_ble_eq_true rfl)⟩) hS (fun _ _ h => h.elim) (fun _ h => h.elim) (fun r_35 u t H1 locs ht hvm hw hB hz1 hk1 hS => ?_)
      have hP := hz_keep hP hk1
      clear hk1 hB hz1
      generalize H1 = H at hP hS ⊢
      subst hw
      refine lv_icmp_eq (tgt := 1137) hx hb dL_law_588 (by decide) (fun _ => ?_) (fun z => absurd (by decide) z)
      refine lv_iinc (v := 6) (lv' := [(3, .int 6), (2, .ref (g_7 0)), (1, .ref (g_3 0)), (0, .ref b)]) hx hb dL_law_1137 hl (k := 0) rfl (by decide) (by decide) rfl (fun ls hl => ?_)
      refine lv_goto (tgt := 18) hx hb dL_law_1140 (by decide) ?_
      refine lv_iload_n hx hb dL_law_18 rfl (lv_at hl 0 rfl) ?_
      refine lv_aload_n hx hb dL_law_19 rfl (lv_at hl 3 rfl) ?_
      refine va_slen hx hb hX hbl hbA hS dL_law_20 ?_
      refine hz_ev 6 (by decide) ?_
      refine lv_bipush (v := 6) hx hb dL_law_21 (by decide) ?_
      refine lv_isub hx hb dL_law_23 ?_
      refine hz_ev 0 (by decide) ?_
      refine lv_icmp_gt (tgt := 1143) hx hb dL_law_24 (by decide) (fun _ => ?_) (fun z => absurd (by decide) z)
      refine lv_iconst (v := 1) hx hb dL_law_1143 (by decide) ?_
      refine va_forget (fun q hq => by have h9 := hS.2.2 q hq; rw [hAe] at h9; exact h9) ?_
      refine W.widen (k := 600000) (n := 7302250) (Nat.le_of_ble_eq_true rfl) (Nat.le_of_ble_eq_true rfl) ?_
      exact lw_ret hx hb hr hlocks dL_law_1144
    · refine lv_tableIn (off := 560) (tgt := 593) hx hb dL_law_33 (by decide) (by decide) (by decide) (by decide) ?_
      refine lv_aload_n hx hb dL_law_593 rfl (lv_at hl 2 rfl) ?_
      refine va_calli (va_runV (As := []) (rest := []) ⟨hx, hb, hml, hown, hT⟩ (c_X11_undo l D cs kK kV g_3 r_4) (cwV 0 hT (hz_gV q_507 q_508 q_509 q_174 q_510) rfl rfl rfl (by decide +kernel) ⟨(Nat.le_of_ble_eq_true rfl), (Nat.le_of_ble_eq_true rfl)⟩) ⟨hz_P.blind, va_recv hK hP (ci := 11) (q0 := 0) rfl rfl, hz_P.mk (hP.sub (ws' := [(g_3 0, .inr (11, [.ref (g_3 1), .ref (g_3 2), .ref (g_3 3), .ref (g_3 4), .int 0, .ref (g_3 5), .ref (g_3 6), .ref (g_3 7), .ref (g_3 8), .int 0, .int 0, .ref (g_3 9), .ref (g_3 10), .ref (g_3 11), .ref (g_3 12), .ref (g_3 13), .int 0]))]) [0] rfl) hE hS⟩ rfl rfl hl.1 rfl (lv_room (Nat.le_of_ble_eq_true rfl)) dL_law_594 ⟨(Nat.le_of_ble_eq_true rfl), (Nat.le_of_ble_eq_true rfl)⟩) hS (fun _ _ h => h.elim) (fun _ h => h.elim) (fun r_36 u t H1 locs ht hvm hw hB hz1 hk1 hS => ?_)
      have hP := hz_keep hP hk1
      clear hk1 hB hz1
      generalize H1 = H at hP hS ⊢
      subst hw
      refine lv_aload_n hx hb dL_law_597 rfl (lv_at hl 1 rfl) ?_
      refine va_calli (va_runV (As := []) (rest := [.int (-1)]) ⟨hx, hb, hml, hown, hT⟩ (c_X12_undo l D cs kK kV g_7) (cwV 0 hT (hz_gV q_511 q_512 q_513 q_252 q_514) rfl rfl rfl (by decide +kernel) ⟨(Nat.le_of_ble_eq_true rfl), (Nat.le_of_ble_eq_true rfl)⟩) ⟨hz_P.blind, va_recv hK hP (ci := 12) (q0 := 17) rfl rfl, hz_P.mk (hP.sub (ws' := [(g_7 0, .inr (12, [.ref (g_7 1), .int 0, .int 0, .ref (g_7 2), .ref (g_7 3), .ref (g_7 4), .ref (g_7 5), .ref (g_7 6), .int 0, .int 0, .int 0, .int 0, .int 0, .int 0, .int 0, .ref (g_7 7), .int 0, .ref (g_7 8), .int 0, .ref (g_7 9), .ref (g_7 10), .int 0, .ref (g_7 11), .ref (g_7 12), .ref (g_7 13), .int 0, .int 0, .ref (g_7 14), .ref (g_7 15), .int 0, .int 0, .int 0, .ref (g_7 16), .long 0, .ref (g_7 17), .ref (g_7 18), .ref (g_7 19)]))]) [17] rfl) hE hS⟩ rfl rfl hl.1 rfl (lv_room (Nat.le_of_ble_eq_true rfl)) dL_law_598 ⟨(Nat.le_of_ble_eq_true rfl), (Nat.le_of_ble_eq_true rfl)⟩) hS (fun _ _ h => h.elim) (fun _ h => h.elim) (fun r_37 u t H1 locs ht hvm hw hB hz1 hk1 hS => ?_)
      have hP := hz_keep hP hk1
      clear hk1 hB hz1
      generalize H1 = H at hP hS ⊢
      subst hw
      refine lv_icmp_eq (tgt := 1137) hx hb dL_law_601 (by decide) (fun _ => ?_) (fun z => absurd (by decide) z)
      refine lv_iinc (v := 6) (lv' := [(3, .int 6), (2, .ref (g_7 0)), (1, .ref (g_3 0)), (0, .ref b)]) hx hb dL_law_1137 hl (k := 0) rfl (by decide) (by decide) rfl (fun ls hl => ?_)
      refine lv_goto (tgt := 18) hx hb dL_law_1140 (by decide) ?_
      refine lv_iload_n hx hb dL_law_18 rfl (lv_at hl 0 rfl) ?_
      refine lv_aload_n hx hb dL_law_19 rfl (lv_at hl 3 rfl) ?_
      refine va_slen hx hb hX hbl hbA hS dL_law_20 ?_
      refine hz_ev 6 (by decide) ?_
      refine lv_bipush (v := 6) hx hb dL_law_21 (by decide) ?_
      refine lv_isub hx hb dL_law_23 ?_
      refine hz_ev 0 (by decide) ?_
      refine lv_icmp_gt (tgt := 1143) hx hb dL_law_24 (by decide) (fun _ => ?_) (fun z => absurd (by decide) z)
      refine lv_iconst (v := 1) hx hb dL_law_1143 (by decide) ?_
      refine va_forget (fun q hq => by have h9 := hS.2.2 q hq; rw [hAe] at h9; exact h9) ?_
      refine W.widen (k := 600000) (n := 7302250) (Nat.le_of_ble_eq_true rfl) (Nat.le_of_ble_eq_true rfl) ?_
      exact lw_ret hx hb hr hlocks dL_law_1144
    · refine lv_tableIn (off := 573) (tgt := 606) hx hb dL_law_33 (by decide) (by decide) (by decide) (by decide) ?_
      refine lv_aload_n hx hb dL_law_606 rfl (lv_at hl 2 rfl) ?_
      refine lv_aload_n hx hb dL_law_607 rfl (lv_at hl 3 rfl) ?_
      refine lv_iload_n hx hb dL_law_608 rfl (lv_at hl 0 rfl) ?_
      refine lv_iconst (v := 1) hx hb dL_law_609 (by decide) ?_
      refine lv_iadd hx hb dL_law_610 ?_
      refine hz_ev 1 (by decide) ?_
      refine va_sld hx hb hX hbl hbA hS (by unfold vp_in; decide) dL_law_611 ?_
      refine hz_ev (xs 1) rfl ?_
      refine lv_aload_n hx hb dL_law_612 rfl (lv_at hl 3 rfl) ?_
      refine lv_iload_n hx hb dL_law_613 rfl (lv_at hl 0 rfl) ?_
      refine lv_iconst (v := 2) hx hb dL_law_614 (by decide) ?_
      refine lv_iadd hx hb dL_law_615 ?_
      refine hz_ev 2 (by decide) ?_
      refine va_sld hx hb hX hbl hbA hS (by unfold vp_in; decide) dL_law_616 ?_
      refine hz_ev (xs 2) rfl ?_
      refine va_calli (va_runV (As := [.int (xs 1), .int (xs 2)]) (rest := []) ⟨hx, hb, hml, hown, hT⟩ (c_X11_run l D cs kK kV g_3 r_4 (xs 1) (xs 2)) (cwV 2 hT (hz_gV q_515 q_516 q_517 q_174 q_518) rfl rfl rfl (by decide +kernel) ⟨(Nat.le_of_ble_eq_true rfl), (Nat.le_of_ble_eq_true rfl)⟩) ⟨hz_P.blind, va_recv hK hP (ci := 11) (q0 := 0) rfl rfl, hz_P.mk (hP.sub (ws' := [(g_3 0, .inr (11, [.ref (g_3 1), .ref (g_3 2), .ref (g_3 3), .ref (g_3 4), .int 0, .ref (g_3 5), .ref (g_3 6), .ref (g_3 7), .ref (g_3 8), .int 0, .int 0, .ref (g_3 9), .ref (g_3 10), .ref (g_3 11), .ref (g_3 12), .ref (g_3 13), .int 0])), (g_3 5, .inr (8, [.int 0, .int 0, .int 0, .int 0, .int 0, .int 12, .int 5, .int 1, .int 0, .ref (r_4 0), .ref (r_4 1), .ref (r_4 2), .ref (r_4 3), .ref (r_4 4), .ref (r_4 5), .ref (r_4 6), .ref (r_4 7), .ref (r_4 8)]))]) [0,5] rfl) hE hS⟩ rfl rfl hl.1 rfl (lv_room (Nat.le_of_ble_eq_true rfl)) dL_law_617 ⟨(Nat.le_of_ble_eq_true rfl), (Nat.le_of_ble_eq_true rfl)⟩) hS (fun _ _ h => h.elim) (fun _ h => h.elim) (fun r_38 u t H1 locs ht hvm hw hB hz1 hk1 hS => ?_)
      have hP := hz_keep hP hk1
      clear hk1 hB hz1
      generalize H1 = H at hP hS ⊢
      subst hw
      refine lv_aload_n hx hb dL_law_620 rfl (lv_at hl 1 rfl) ?_
      refine lv_aload_n hx hb dL_law_621 rfl (lv_at hl 3 rfl) ?_
      refine lv_iload_n hx hb dL_law_622 rfl (lv_at hl 0 rfl) ?_
      refine lv_iconst (v := 1) hx hb dL_law_623 (by decide) ?_
      refine lv_iadd hx hb dL_law_624 ?_
      refine hz_ev 1 (by decide) ?_
      refine va_sld hx hb hX hbl hbA hS (by unfold vp_in; decide) dL_law_625 ?_
      refine hz_ev (xs 1) rfl ?_
      refine lv_aload_n hx hb dL_law_626 rfl (lv_at hl 3 rfl) ?_
      refine lv_iload_n hx hb dL_law_627 rfl (lv_at hl 0 rfl) ?_
      refine lv_iconst (v := 2) hx hb dL_law_628 (by decide) ?_
      refine lv_iadd hx hb dL_law_629 ?_
      refine hz_ev 2 (by decide) ?_
      refine va_sld hx hb hX hbl hbA hS (by unfold vp_in; decide) dL_law_630 ?_
      refine hz_ev (xs 2) rfl ?_
      refine va_calli (va_runV (As := [.int (xs 1), .int (xs 2)]) (rest := [.int (-1)]) ⟨hx, hb, hml, hown, hT⟩ (c_X12_run l D cs kK kV g_7 (xs 1) (xs 2)) (cwV 2 hT (hz_gV q_519 q_520 q_521 q_252 q_522) rfl rfl rfl (by decide +kernel) ⟨(Nat.le_of_ble_eq_true rfl), (Nat.le_of_ble_eq_true rfl)⟩) ⟨hz_P.blind, va_recv hK hP (ci := 12) (q0 := 17) rfl rfl, hz_P.mk (hP.sub (ws' := [(g_7 0, .inr (12, [.ref (g_7 1), .int 0, .int 0, .ref (g_7 2), .ref (g_7 3), .ref (g_7 4), .ref (g_7 5), .ref (g_7 6), .int 0, .int 0, .int 0, .int 0, .int 0, .int 0, .int 0, .ref (g_7 7), .int 0, .ref (g_7 8), .int 0, .ref (g_7 9), .ref (g_7 10), .int 0, .ref (g_7 11), .ref (g_7 12), .ref (g_7 13), .int 0, .int 0, .ref (g_7 14), .ref (g_7 15), .int 0, .int 0, .int 0, .ref (g_7 16), .long 0, .ref (g_7 17), .ref (g_7 18), .ref (g_7 19)])), (g_7 10, .inl (cs 0, 123, .inl (fun _ => 0)))]) [17,22] rfl) hE hS⟩ rfl rfl hl.1 rfl (lv_room (Nat.le_of_ble_eq_true rfl)) dL_law_631 ⟨(Nat.le_of_ble_eq_true rfl), (Nat.le_of_ble_eq_true rfl)⟩) hS (fun _ _ h => h.elim) (fun _ h => h.elim) (fun r_39 u t H1 locs ht hvm hw hB hz1 hk1 hS => ?_)
      have hP := hz_keep hP hk1
      clear hk1 hB hz1
      generalize H1 = H at hP hS ⊢
      subst hw
      refine lv_icmp_eq (tgt := 1137) hx hb dL_law_634 (by decide) (fun _ => ?_) (fun z => absurd (by decide) z)
      refine lv_iinc (v := 6) (lv' := [(3, .int 6), (2, .ref (g_7 0)), (1, .ref (g_3 0)), (0, .ref b)]) hx hb dL_law_1137 hl (k := 0) rfl (by decide) (by decide) rfl (fun ls hl => ?_)
      refine lv_goto (tgt := 18) hx hb dL_law_1140 (by decide) ?_
      refine lv_iload_n hx hb dL_law_18 rfl (lv_at hl 0 rfl) ?_
      refine lv_aload_n hx hb dL_law_19 rfl (lv_at hl 3 rfl) ?_
      refine va_slen hx hb hX hbl hbA hS dL_law_20 ?_
      refine hz_ev 6 (by decide) ?_
      refine lv_bipush (v := 6) hx hb dL_law_21 (by decide) ?_
      refine lv_isub hx hb dL_law_23 ?_
      refine hz_ev 0 (by decide) ?_
      refine lv_icmp_gt (tgt := 1143) hx hb dL_law_24 (by decide) (fun _ => ?_) (fun z => absurd (by decide) z)
      refine lv_iconst (v := 1) hx hb dL_law_1143 (by decide) ?_
      refine va_forget (fun q hq => by have h9 := hS.2.2 q hq; rw [hAe] at h9; exact h9) ?_
      refine W.widen (k := 600000) (n := 7302250) (Nat.le_of_ble_eq_true rfl) (Nat.le_of_ble_eq_true rfl) ?_
      exact lw_ret hx hb hr hlocks dL_law_1144
    · refine lv_tableIn (off := 606) (tgt := 639) hx hb dL_law_33 (by decide) (by decide) (by decide) (by decide) ?_
      refine lv_aload_n hx hb dL_law_639 rfl (lv_at hl 2 rfl) ?_
      refine lv_aload_n hx hb dL_law_640 rfl (lv_at hl 3 rfl) ?_
      refine lv_iload_n hx hb dL_law_641 rfl (lv_at hl 0 rfl) ?_
      refine lv_iconst (v := 1) hx hb dL_law_642 (by decide) ?_
      refine lv_iadd hx hb dL_law_643 ?_
      refine hz_ev 1 (by decide) ?_
      refine va_sld hx hb hX hbl hbA hS (by unfold vp_in; decide) dL_law_644 ?_
      refine hz_ev (xs 1) rfl ?_
      refine va_calli (va_runV (As := [.int (xs 1)]) (rest := []) ⟨hx, hb, hml, hown, hT⟩ (c_X11_worth l D cs kK kV g_3 r_4 (xs 1)) (cwV 1 hT (hz_gV q_523 q_524 q_525 q_174 q_526) rfl rfl rfl (by decide +kernel) ⟨(Nat.le_of_ble_eq_true rfl), (Nat.le_of_ble_eq_true rfl)⟩) ⟨hz_P.blind, va_recv hK hP (ci := 11) (q0 := 0) rfl rfl, hz_P.mk (hP.sub (ws' := [(g_3 0, .inr (11, [.ref (g_3 1), .ref (g_3 2), .ref (g_3 3), .ref (g_3 4), .int 0, .ref (g_3 5), .ref (g_3 6), .ref (g_3 7), .ref (g_3 8), .int 0, .int 0, .ref (g_3 9), .ref (g_3 10), .ref (g_3 11), .ref (g_3 12), .ref (g_3 13), .int 0])), (g_3 5, .inr (8, [.int 0, .int 0, .int 0, .int 0, .int 0, .int 12, .int 5, .int 1, .int 0, .ref (r_4 0), .ref (r_4 1), .ref (r_4 2), .ref (r_4 3), .ref (r_4 4), .ref (r_4 5), .ref (r_4 6), .ref (r_4 7), .ref (r_4 8)]))]) [0,5] rfl) hE hS⟩ rfl rfl hl.1 rfl (lv_room (Nat.le_of_ble_eq_true rfl)) dL_law_645 ⟨(Nat.le_of_ble_eq_true rfl), (Nat.le_of_ble_eq_true rfl)⟩) hS (fun _ _ h => h.elim) (fun _ h => h.elim) (fun r_40 u t H1 locs ht hvm hw hB hz1 hk1 hS => ?_)
      have hP := hz_keep hP hk1
      clear hk1 hB hz1
      generalize H1 = H at hP hS ⊢
      subst hw
      refine lv_aload_n hx hb dL_law_648 rfl (lv_at hl 1 rfl) ?_
      refine lv_aload_n hx hb dL_law_649 rfl (lv_at hl 3 rfl) ?_
      refine lv_iload_n hx hb dL_law_650 rfl (lv_at hl 0 rfl) ?_
      refine lv_iconst (v := 1) hx hb dL_law_651 (by decide) ?_
      refine lv_iadd hx hb dL_law_652 ?_
      refine hz_ev 1 (by decide) ?_
      refine va_sld hx hb hX hbl hbA hS (by unfold vp_in; decide) dL_law_653 ?_
      refine hz_ev (xs 1) rfl ?_
      refine va_calli (va_runV (As := [.int (xs 1)]) (rest := [.int (-1)]) ⟨hx, hb, hml, hown, hT⟩ (c_X12_worth l D cs kK kV g_7 (xs 1)) (cwV 1 hT (hz_gV q_527 q_528 q_529 q_252 q_530) rfl rfl rfl (by decide +kernel) ⟨(Nat.le_of_ble_eq_true rfl), (Nat.le_of_ble_eq_true rfl)⟩) ⟨hz_P.blind, va_recv hK hP (ci := 12) (q0 := 17) rfl rfl, hz_P.mk (hP.sub (ws' := [(g_7 0, .inr (12, [.ref (g_7 1), .int 0, .int 0, .ref (g_7 2), .ref (g_7 3), .ref (g_7 4), .ref (g_7 5), .ref (g_7 6), .int 0, .int 0, .int 0, .int 0, .int 0, .int 0, .int 0, .ref (g_7 7), .int 0, .ref (g_7 8), .int 0, .ref (g_7 9), .ref (g_7 10), .int 0, .ref (g_7 11), .ref (g_7 12), .ref (g_7 13), .int 0, .int 0, .ref (g_7 14), .ref (g_7 15), .int 0, .int 0, .int 0, .ref (g_7 16), .long 0, .ref (g_7 17), .ref (g_7 18), .ref (g_7 19)])), (g_7 10, .inl (cs 0, 123, .inl (fun _ => 0)))]) [17,22] rfl) hE hS⟩ rfl rfl hl.1 rfl (lv_room (Nat.le_of_ble_eq_true rfl)) dL_law_654 ⟨(Nat.le_of_ble_eq_true rfl), (Nat.le_of_ble_eq_true rfl)⟩) hS (fun _ _ h => h.elim) (fun _ h => h.elim) (fun r_41 u t H1 locs ht hvm hw hB hz1 hk1 hS => ?_)
      have hP := hz_keep hP hk1
      clear hk1 hB hz1
      generalize H1 = H at hP hS ⊢
      subst hw
      refine lv_icmp_eq (tgt := 1137) hx hb dL_law_657 (by decide) (fun _ => ?_) (fun z => absurd (by decide) z)
      refine lv_iinc (v := 6) (lv' := [(3, .int 6), (2, .ref (g_7 0)), (1, .ref (g_3 0)), (0, .ref b)]) hx hb dL_law_1137 hl (k := 0) rfl (by decide) (by decide) rfl (fun ls hl => ?_)
      refine lv_goto (tgt := 18) hx hb dL_law_1140 (by decide) ?_
      refine lv_iload_n hx hb dL_law_18 rfl (lv_at hl 0 rfl) ?_
      refine lv_aload_n hx hb dL_law_19 rfl (lv_at hl 3 rfl) ?_
      refine va_slen hx hb hX hbl hbA hS dL_law_20 ?_
      refine hz_ev 6 (by decide) ?_
      refine lv_bipush (v := 6) hx hb dL_law_21 (by decide) ?_
      refine lv_isub hx hb dL_law_23 ?_
      refine hz_ev 0 (by decide) ?_
      refine lv_icmp_gt (tgt := 1143) hx hb dL_law_24 (by decide) (fun _ => ?_) (fun z => absurd (by decide) z)
      refine lv_iconst (v := 1) hx hb dL_law_1143 (by decide) ?_
      refine va_forget (fun q hq => by have h9 := hS.2.2 q hq; rw [hAe] at h9; exact h9) ?_
      refine W.widen (k := 600000) (n := 7302250) (Nat.le_of_ble_eq_true rfl) (Nat.le_of_ble_eq_true rfl) ?_
      exact lw_ret hx hb hr hlocks dL_law_1144
    · refine lv_tableIn (off := 629) (tgt := 662) hx hb dL_law_33 (by decide) (by decide) (by decide) (by decide) ?_
      refine lv_aload_n hx hb dL_law_662 rfl (lv_at hl 2 rfl) ?_
      refine lv_aload_n hx hb dL_law_663 rfl (lv_at hl 3 rfl) ?_
      refine lv_iload_n hx hb dL_law_664 rfl (lv_at hl 0 rfl) ?_
      refine lv_iconst (v := 1) hx hb dL_law_665 (by decide) ?_
      refine lv_iadd hx hb dL_law_666 ?_
      refine hz_ev 1 (by decide) ?_
      refine va_sld hx hb hX hbl hbA hS (by unfold vp_in; decide) dL_law_667 ?_
      refine hz_ev (xs 1) rfl ?_
      refine lv_aload_n hx hb dL_law_668 rfl (lv_at hl 3 rfl) ?_
      refine lv_iload_n hx hb dL_law_669 rfl (lv_at hl 0 rfl) ?_
      refine lv_iconst (v := 2) hx hb dL_law_670 (by decide) ?_
      refine lv_iadd hx hb dL_law_671 ?_
      refine hz_ev 2 (by decide) ?_
      refine va_sld hx hb hX hbl hbA hS (by unfold vp_in; decide) dL_law_672 ?_
      refine hz_ev (xs 2) rfl ?_
      refine va_calli (va_runV (As := [.int (xs 1), .int (xs 2)]) (rest := []) ⟨hx, hb, hml, hown, hT⟩ (c_X11_with l D cs kK kV g_3 r_4 (xs 1) (xs 2)) (cwV 2 hT (hz_gV q_531 q_532 q_533 q_174 q_534) rfl rfl rfl (by decide +kernel) ⟨(Nat.le_of_ble_eq_true rfl), (Nat.le_of_ble_eq_true rfl)⟩) ⟨hz_P.blind, va_recv hK hP (ci := 11) (q0 := 0) rfl rfl, hz_P.mk (hP.sub (ws' := [(g_3 0, .inr (11, [.ref (g_3 1), .ref (g_3 2), .ref (g_3 3), .ref (g_3 4), .int 0, .ref (g_3 5), .ref (g_3 6), .ref (g_3 7), .ref (g_3 8), .int 0, .int 0, .ref (g_3 9), .ref (g_3 10), .ref (g_3 11), .ref (g_3 12), .ref (g_3 13), .int 0])), (g_3 5, .inr (8, [.int 0, .int 0, .int 0, .int 0, .int 0, .int 12, .int 5, .int 1, .int 0, .ref (r_4 0), .ref (r_4 1), .ref (r_4 2), .ref (r_4 3), .ref (r_4 4), .ref (r_4 5), .ref (r_4 6), .ref (r_4 7), .ref (r_4 8)]))]) [0,5] rfl) hE hS⟩ rfl rfl hl.1 rfl (lv_room (Nat.le_of_ble_eq_true rfl)) dL_law_673 ⟨(Nat.le_of_ble_eq_true rfl), (Nat.le_of_ble_eq_true rfl)⟩) hS (fun _ _ h => h.elim) (fun _ h => h.elim) (fun r_42 u t H1 locs ht hvm hw hB hz1 hk1 hS => ?_)
      have hP := hz_keep hP hk1
      clear hk1 hB hz1
      generalize H1 = H at hP hS ⊢
      subst hw
      refine lv_aload_n hx hb dL_law_676 rfl (lv_at hl 1 rfl) ?_
      refine lv_aload_n hx hb dL_law_677 rfl (lv_at hl 3 rfl) ?_
      refine lv_iload_n hx hb dL_law_678 rfl (lv_at hl 0 rfl) ?_
      refine lv_iconst (v := 1) hx hb dL_law_679 (by decide) ?_
      refine lv_iadd hx hb dL_law_680 ?_
      refine hz_ev 1 (by decide) ?_
      refine va_sld hx hb hX hbl hbA hS (by unfold vp_in; decide) dL_law_681 ?_
      refine hz_ev (xs 1) rfl ?_
      refine lv_aload_n hx hb dL_law_682 rfl (lv_at hl 3 rfl) ?_
      refine lv_iload_n hx hb dL_law_683 rfl (lv_at hl 0 rfl) ?_
      refine lv_iconst (v := 2) hx hb dL_law_684 (by decide) ?_
      refine lv_iadd hx hb dL_law_685 ?_
      refine hz_ev 2 (by decide) ?_
      refine va_sld hx hb hX hbl hbA hS (by unfold vp_in; decide) dL_law_686 ?_
      refine hz_ev (xs 2) rfl ?_
      refine va_calli (va_runV (As := [.int (xs 1), .int (xs 2)]) (rest := [.int (-2)]) ⟨hx, hb, hml, hown, hT⟩ (c_X12_with l D cs kK kV g_7 (xs 1) (xs 2)) (cwV 2 hT (hz_gV q_535 q_536 q_537 q_252 q_538) rfl rfl rfl (by decide +kernel) ⟨(Nat.le_of_ble_eq_true rfl), (Nat.le_of_ble_eq_true rfl)⟩) ⟨hz_P.blind, va_recv hK hP (ci := 12) (q0 := 17) rfl rfl, hz_P.mk (hP.sub (ws' := [(g_7 0, .inr (12, [.ref (g_7 1), .int 0, .int 0, .ref (g_7 2), .ref (g_7 3), .ref (g_7 4), .ref (g_7 5), .ref (g_7 6), .int 0, .int 0, .int 0, .int 0, .int 0, .int 0, .int 0, .ref (g_7 7), .int 0, .ref (g_7 8), .int 0, .ref (g_7 9), .ref (g_7 10), .int 0, .ref (g_7 11), .ref (g_7 12), .ref (g_7 13), .int 0, .int 0, .ref (g_7 14), .ref (g_7 15), .int 0, .int 0, .int 0, .ref (g_7 16), .long 0, .ref (g_7 17), .ref (g_7 18), .ref (g_7 19)])), (g_7 10, .inl (cs 0, 123, .inl (fun _ => 0)))]) [17,22] rfl) hE hS⟩ rfl rfl hl.1 rfl (lv_room (Nat.le_of_ble_eq_true rfl)) dL_law_687 ⟨(Nat.le_of_ble_eq_true rfl), (Nat.le_of_ble_eq_true rfl)⟩) hS (fun _ _ h => h.elim) (fun _ h => h.elim) (fun r_43 u t H1 locs ht hvm hw hB hz1 hk1 hS => ?_)
      have hP := hz_keep hP hk1
      clear hk1 hB hz1
      generalize H1 = H at hP hS ⊢
      subst hw
      refine lv_icmp_eq (tgt := 1137) hx hb dL_law_690 (by decide) (fun _ => ?_) (fun z => absurd (by decide) z)
      refine lv_iinc (v := 6) (lv' := [(3, .int 6), (2, .ref (g_7 0)), (1, .ref (g_3 0)), (0, .ref b)]) hx hb dL_law_1137 hl (k := 0) rfl (by decide) (by decide) rfl (fun ls hl => ?_)
      refine lv_goto (tgt := 18) hx hb dL_law_1140 (by decide) ?_
      refine lv_iload_n hx hb dL_law_18 rfl (lv_at hl 0 rfl) ?_
      refine lv_aload_n hx hb dL_law_19 rfl (lv_at hl 3 rfl) ?_
      refine va_slen hx hb hX hbl hbA hS dL_law_20 ?_
      refine hz_ev 6 (by decide) ?_
      refine lv_bipush (v := 6) hx hb dL_law_21 (by decide) ?_
      refine lv_isub hx hb dL_law_23 ?_
      refine hz_ev 0 (by decide) ?_
      refine lv_icmp_gt (tgt := 1143) hx hb dL_law_24 (by decide) (fun _ => ?_) (fun z => absurd (by decide) z)
      refine lv_iconst (v := 1) hx hb dL_law_1143 (by decide) ?_
      refine va_forget (fun q hq => by have h9 := hS.2.2 q hq; rw [hAe] at h9; exact h9) ?_
      refine W.widen (k := 600000) (n := 7302250) (Nat.le_of_ble_eq_true rfl) (Nat.le_of_ble_eq_true rfl) ?_
      exact lw_ret hx hb hr hlocks dL_law_1144
    · refine lv_tableIn (off := 662) (tgt := 695) hx hb dL_law_33 (by decide) (by decide) (by decide) (by decide) ?_
      refine lv_aload_n hx hb dL_law_695 rfl (lv_at hl 2 rfl) ?_
      refine lv_aload_n hx hb dL_law_696 rfl (lv_at hl 3 rfl) ?_
      refine lv_iload_n hx hb dL_law_697 rfl (lv_at hl 0 rfl) ?_
      refine lv_iconst (v := 1) hx hb dL_law_698 (by decide) ?_
      refine lv_iadd hx hb dL_law_699 ?_
      refine hz_ev 1 (by decide) ?_
      refine va_sld hx hb hX hbl hbA hS (by unfold vp_in; decide) dL_law_700 ?_
      refine hz_ev (xs 1) rfl ?_
      refine lv_aload_n hx hb dL_law_701 rfl (lv_at hl 3 rfl) ?_
      refine lv_iload_n hx hb dL_law_702 rfl (lv_at hl 0 rfl) ?_
      refine lv_iconst (v := 2) hx hb dL_law_703 (by decide) ?_
      refine lv_iadd hx hb dL_law_704 ?_
      refine hz_ev 2 (by decide) ?_
      refine va_sld hx hb hX hbl hbA hS (by unfold vp_in; decide) dL_law_705 ?_
      refine hz_ev (xs 2) rfl ?_
      refine va_calli (va_runV (As := [.int (xs 1), .int (xs 2)]) (rest := []) ⟨hx, hb, hml, hown, hT⟩ (c_X11_walk l D cs kK kV g_3 r_4 (xs 1) (xs 2)) (cwV 2 hT (hz_gV q_539 q_540 q_541 q_174 q_542) rfl rfl rfl (by decide +kernel) ⟨(Nat.le_of_ble_eq_true rfl), (Nat.le_of_ble_eq_true rfl)⟩) ⟨hz_P.blind, va_recv hK hP (ci := 11) (q0 := 0) rfl rfl, hz_P.mk (hP.sub (ws' := [(g_3 0, .inr (11, [.ref (g_3 1), .ref (g_3 2), .ref (g_3 3), .ref (g_3 4), .int 0, .ref (g_3 5), .ref (g_3 6), .ref (g_3 7), .ref (g_3 8), .int 0, .int 0, .ref (g_3 9), .ref (g_3 10), .ref (g_3 11), .ref (g_3 12), .ref (g_3 13), .int 0])), (g_3 5, .inr (8, [.int 0, .int 0, .int 0, .int 0, .int 0, .int 12, .int 5, .int 1, .int 0, .ref (r_4 0), .ref (r_4 1), .ref (r_4 2), .ref (r_4 3), .ref (r_4 4), .ref (r_4 5), .ref (r_4 6), .ref (r_4 7), .ref (r_4 8)]))]) [0,5] rfl) hE hS⟩ rfl rfl hl.1 rfl (lv_room (Nat.le_of_ble_eq_true rfl)) dL_law_706 ⟨(Nat.le_of_ble_eq_true rfl), (Nat.le_of_ble_eq_true rfl)⟩) hS (fun _ _ h => h.elim) (fun _ h => h.elim) (fun r_44 u t H1 locs ht hvm hw hB hz1 hk1 hS => ?_)
      have hP := hz_keep hP hk1
      clear hk1 hB hz1
      generalize H1 = H at hP hS ⊢
      subst hw
      refine lv_aload_n hx hb dL_law_709 rfl (lv_at hl 1 rfl) ?_
      refine lv_aload_n hx hb dL_law_710 rfl (lv_at hl 3 rfl) ?_
      refine lv_iload_n hx hb dL_law_711 rfl (lv_at hl 0 rfl) ?_
      refine lv_iconst (v := 1) hx hb dL_law_712 (by decide) ?_
      refine lv_iadd hx hb dL_law_713 ?_
      refine hz_ev 1 (by decide) ?_
      refine va_sld hx hb hX hbl hbA hS (by unfold vp_in; decide) dL_law_714 ?_
      refine hz_ev (xs 1) rfl ?_
      refine lv_aload_n hx hb dL_law_715 rfl (lv_at hl 3 rfl) ?_
      refine lv_iload_n hx hb dL_law_716 rfl (lv_at hl 0 rfl) ?_
      refine lv_iconst (v := 2) hx hb dL_law_717 (by decide) ?_
      refine lv_iadd hx hb dL_law_718 ?_
      refine hz_ev 2 (by decide) ?_
      refine va_sld hx hb hX hbl hbA hS (by unfold vp_in; decide) dL_law_719 ?_
      refine hz_ev (xs 2) rfl ?_
      refine va_calli (va_runV (As := [.int (xs 1), .int (xs 2)]) (rest := [.int (-3)]) ⟨hx, hb, hml, hown, hT⟩ (c_X12_walk l D cs kK kV g_7 (xs 1) (xs 2)) (cwV 2 hT (hz_gV q_543 q_544 q_545 q_252 q_546) rfl rfl rfl (by decide +kernel) ⟨(Nat.le_of_ble_eq_true rfl), (Nat.le_of_ble_eq_true rfl)⟩) ⟨hz_P.blind, va_recv hK hP (ci := 12) (q0 := 17) rfl rfl, hz_P.mk (hP.sub (ws' := [(g_7 0, .inr (12, [.ref (g_7 1), .int 0, .int 0, .ref (g_7 2), .ref (g_7 3), .ref (g_7 4), .ref (g_7 5), .ref (g_7 6), .int 0, .int 0, .int 0, .int 0, .int 0, .int 0, .int 0, .ref (g_7 7), .int 0, .ref (g_7 8), .int 0, .ref (g_7 9), .ref (g_7 10), .int 0, .ref (g_7 11), .ref (g_7 12), .ref (g_7 13), .int 0, .int 0, .ref (g_7 14), .ref (g_7 15), .int 0, .int 0, .int 0, .ref (g_7 16), .long 0, .ref (g_7 17), .ref (g_7 18), .ref (g_7 19)])), (g_7 10, .inl (cs 0, 123, .inl (fun _ => 0)))]) [17,22] rfl) hE hS⟩ rfl rfl hl.1 rfl (lv_room (Nat.le_of_ble_eq_true rfl)) dL_law_720 ⟨(Nat.le_of_ble_eq_true rfl), (Nat.le_of_ble_eq_true rfl)⟩) hS (fun _ _ h => h.elim) (fun _ h => h.elim) (fun r_45 u t H1 locs ht hvm hw hB hz1 hk1 hS => ?_)
      have hP := hz_keep hP hk1
      clear hk1 hB hz1
      generalize H1 = H at hP hS ⊢
      subst hw
      refine lv_icmp_eq (tgt := 1137) hx hb dL_law_723 (by decide) (fun _ => ?_) (fun z => absurd (by decide) z)
      refine lv_iinc (v := 6) (lv' := [(3, .int 6), (2, .ref (g_7 0)), (1, .ref (g_3 0)), (0, .ref b)]) hx hb dL_law_1137 hl (k := 0) rfl (by decide) (by decide) rfl (fun ls hl => ?_)
      refine lv_goto (tgt := 18) hx hb dL_law_1140 (by decide) ?_
      refine lv_iload_n hx hb dL_law_18 rfl (lv_at hl 0 rfl) ?_
      refine lv_aload_n hx hb dL_law_19 rfl (lv_at hl 3 rfl) ?_
      refine va_slen hx hb hX hbl hbA hS dL_law_20 ?_
      refine hz_ev 6 (by decide) ?_
      refine lv_bipush (v := 6) hx hb dL_law_21 (by decide) ?_
      refine lv_isub hx hb dL_law_23 ?_
      refine hz_ev 0 (by decide) ?_
      refine lv_icmp_gt (tgt := 1143) hx hb dL_law_24 (by decide) (fun _ => ?_) (fun z => absurd (by decide) z)
      refine lv_iconst (v := 1) hx hb dL_law_1143 (by decide) ?_
      refine va_forget (fun q hq => by have h9 := hS.2.2 q hq; rw [hAe] at h9; exact h9) ?_
      refine W.widen (k := 600000) (n := 7302250) (Nat.le_of_ble_eq_true rfl) (Nat.le_of_ble_eq_true rfl) ?_
      exact lw_ret hx hb hr hlocks dL_law_1144
    · refine lv_tableIn (off := 695) (tgt := 728) hx hb dL_law_33 (by decide) (by decide) (by decide) (by decide) ?_
      refine lv_aload_n hx hb dL_law_728 rfl (lv_at hl 2 rfl) ?_
      refine lv_aload_n hx hb dL_law_729 rfl (lv_at hl 3 rfl) ?_
      refine lv_iload_n hx hb dL_law_730 rfl (lv_at hl 0 rfl) ?_
      refine lv_iconst (v := 1) hx hb dL_law_731 (by decide) ?_
      refine lv_iadd hx hb dL_law_732 ?_
      refine hz_ev 1 (by decide) ?_
      refine va_sld hx hb hX hbl hbA hS (by unfold vp_in; decide) dL_law_733 ?_
      refine hz_ev (xs 1) rfl ?_
      refine lv_aload_n hx hb dL_law_734 rfl (lv_at hl 3 rfl) ?_
      refine lv_iload_n hx hb dL_law_735 rfl (lv_at hl 0 rfl) ?_
      refine lv_iconst (v := 2) hx hb dL_law_736 (by decide) ?_
      refine lv_iadd hx hb dL_law_737 ?_
      refine hz_ev 2 (by decide) ?_
      refine va_sld hx hb hX hbl hbA hS (by unfold vp_in; decide) dL_law_738 ?_
      refine hz_ev (xs 2) rfl ?_
      refine lv_aload_n hx hb dL_law_739 rfl (lv_at hl 3 rfl) ?_
      refine lv_iload_n hx hb dL_law_740 rfl (lv_at hl 0 rfl) ?_
      refine lv_iconst (v := 3) hx hb dL_law_741 (by decide) ?_
      refine lv_iadd hx hb dL_law_742 ?_
      refine hz_ev 3 (by decide) ?_
      refine va_sld hx hb hX hbl hbA hS (by unfold vp_in; decide) dL_law_743 ?_
      refine hz_ev (xs 3) rfl ?_
      refine va_calli (va_runV (As := [.int (xs 1), .int (xs 2), .int (xs 3)]) (rest := []) ⟨hx, hb, hml, hown, hT⟩ (c_X11_chance l D cs kK kV g_3 r_4 (xs 1) (xs 2) (xs 3)) (cwV 3 hT (hz_gV q_547 q_548 q_549 q_174 q_550) rfl rfl rfl (by decide +kernel) ⟨(Nat.le_of_ble_eq_true rfl), (Nat.le_of_ble_eq_true rfl)⟩) ⟨hz_P.blind, va_recv hK hP (ci := 11) (q0 := 0) rfl rfl, hz_P.mk (hP.sub (ws' := [(g_3 0, .inr (11, [.ref (g_3 1), .ref (g_3 2), .ref (g_3 3), .ref (g_3 4), .int 0, .ref (g_3 5), .ref (g_3 6), .ref (g_3 7), .ref (g_3 8), .int 0, .int 0, .ref (g_3 9), .ref (g_3 10), .ref (g_3 11), .ref (g_3 12), .ref (g_3 13), .int 0])), (g_3 5, .inr (8, [.int 0, .int 0, .int 0, .int 0, .int 0, .int 12, .int 5, .int 1, .int 0, .ref (r_4 0), .ref (r_4 1), .ref (r_4 2), .ref (r_4 3), .ref (r_4 4), .ref (r_4 5), .ref (r_4 6), .ref (r_4 7), .ref (r_4 8)]))]) [0,5] rfl) hE hS⟩ rfl rfl hl.1 rfl (lv_room (Nat.le_of_ble_eq_true rfl)) dL_law_744 ⟨(Nat.le_of_ble_eq_true rfl), (Nat.le_of_ble_eq_true rfl)⟩) hS (fun _ _ h => h.elim) (fun _ h => h.elim) (fun r_46 u t H1 locs ht hvm hw hB hz1 hk1 hS => ?_)
      have hP := hz_keep hP hk1
      clear hk1 hB hz1
      generalize H1 = H at hP hS ⊢
      subst hw
      refine lv_aload_n hx hb dL_law_747 rfl (lv_at hl 1 rfl) ?_
      refine lv_aload_n hx hb dL_law_748 rfl (lv_at hl 3 rfl) ?_
      refine lv_iload_n hx hb dL_law_749 rfl (lv_at hl 0 rfl) ?_
      refine lv_iconst (v := 1) hx hb dL_law_750 (by decide) ?_
      refine lv_iadd hx hb dL_law_751 ?_
      refine hz_ev 1 (by decide) ?_
      refine va_sld hx hb hX hbl hbA hS (by unfold vp_in; decide) dL_law_752 ?_
      refine hz_ev (xs 1) rfl ?_
      refine lv_aload_n hx hb dL_law_753 rfl (lv_at hl 3 rfl) ?_
      refine lv_iload_n hx hb dL_law_754 rfl (lv_at hl 0 rfl) ?_
      refine lv_iconst (v := 2) hx hb dL_law_755 (by decide) ?_
      refine lv_iadd hx hb dL_law_756 ?_
      refine hz_ev 2 (by decide) ?_
      refine va_sld hx hb hX hbl hbA hS (by unfold vp_in; decide) dL_law_757 ?_
      refine hz_ev (xs 2) rfl ?_
      refine lv_aload_n hx hb dL_law_758 rfl (lv_at hl 3 rfl) ?_
      refine lv_iload_n hx hb dL_law_759 rfl (lv_at hl 0 rfl) ?_
      refine lv_iconst (v := 3) hx hb dL_law_760 (by decide) ?_
      refine lv_iadd hx hb dL_law_761 ?_
      refine hz_ev 3 (by decide) ?_
      refine va_sld hx hb hX hbl hbA hS (by unfold vp_in; decide) dL_law_762 ?_
      refine hz_ev (xs 3) rfl ?_
      refine va_calli (va_runV (As := [.int (xs 1), .int (xs 2), .int (xs 3)]) (rest := [.int (-1)]) ⟨hx, hb, hml, hown, hT⟩ (c_X12_chance l D cs kK kV g_7 (xs 1) (xs 2) (xs 3)) (cwV 3 hT (hz_gV q_551 q_552 q_553 q_252 q_554) rfl rfl rfl (by decide +kernel) ⟨(Nat.le_of_ble_eq_true rfl), (Nat.le_of_ble_eq_true rfl)⟩) ⟨hz_P.blind, va_recv hK hP (ci := 12) (q0 := 17) rfl rfl, hz_P.mk (hP.sub (ws' := [(g_7 0, .inr (12, [.ref (g_7 1), .int 0, .int 0, .ref (g_7 2), .ref (g_7 3), .ref (g_7 4), .ref (g_7 5), .ref (g_7 6), .int 0, .int 0, .int 0, .int 0, .int 0, .int 0, .int 0, .ref (g_7 7), .int 0, .ref (g_7 8), .int 0, .ref (g_7 9), .ref (g_7 10), .int 0, .ref (g_7 11), .ref (g_7 12), .ref (g_7 13), .int 0, .int 0, .ref (g_7 14), .ref (g_7 15), .int 0, .int 0, .int 0, .ref (g_7 16), .long 0, .ref (g_7 17), .ref (g_7 18), .ref (g_7 19)])), (g_7 10, .inl (cs 0, 123, .inl (fun _ => 0)))]) [17,22] rfl) hE hS⟩ rfl rfl hl.1 rfl (lv_room (Nat.le_of_ble_eq_true rfl)) dL_law_763 ⟨(Nat.le_of_ble_eq_true rfl), (Nat.le_of_ble_eq_true rfl)⟩) hS (fun _ _ h => h.elim) (fun _ h => h.elim) (fun r_47 u t H1 locs ht hvm hw hB hz1 hk1 hS => ?_)
      have hP := hz_keep hP hk1
      clear hk1 hB hz1
      generalize H1 = H at hP hS ⊢
      subst hw
      refine lv_icmp_eq (tgt := 1137) hx hb dL_law_766 (by decide) (fun _ => ?_) (fun z => absurd (by decide) z)
      refine lv_iinc (v := 6) (lv' := [(3, .int 6), (2, .ref (g_7 0)), (1, .ref (g_3 0)), (0, .ref b)]) hx hb dL_law_1137 hl (k := 0) rfl (by decide) (by decide) rfl (fun ls hl => ?_)
      refine lv_goto (tgt := 18) hx hb dL_law_1140 (by decide) ?_
      refine lv_iload_n hx hb dL_law_18 rfl (lv_at hl 0 rfl) ?_
      refine lv_aload_n hx hb dL_law_19 rfl (lv_at hl 3 rfl) ?_
      refine va_slen hx hb hX hbl hbA hS dL_law_20 ?_
      refine hz_ev 6 (by decide) ?_
      refine lv_bipush (v := 6) hx hb dL_law_21 (by decide) ?_
      refine lv_isub hx hb dL_law_23 ?_
      refine hz_ev 0 (by decide) ?_
      refine lv_icmp_gt (tgt := 1143) hx hb dL_law_24 (by decide) (fun _ => ?_) (fun z => absurd (by decide) z)
      refine lv_iconst (v := 1) hx hb dL_law_1143 (by decide) ?_
      refine va_forget (fun q hq => by have h9 := hS.2.2 q hq; rw [hAe] at h9; exact h9) ?_
      refine W.widen (k := 600000) (n := 7302250) (Nat.le_of_ble_eq_true rfl) (Nat.le_of_ble_eq_true rfl) ?_
      exact lw_ret hx hb hr hlocks dL_law_1144
    · refine lv_tableIn (off := 738) (tgt := 771) hx hb dL_law_33 (by decide) (by decide) (by decide) (by decide) ?_
      refine lv_aload_n hx hb dL_law_771 rfl (lv_at hl 2 rfl) ?_
      refine lv_aload_n hx hb dL_law_772 rfl (lv_at hl 3 rfl) ?_
      refine lv_iload_n hx hb dL_law_773 rfl (lv_at hl 0 rfl) ?_
      refine lv_iconst (v := 1) hx hb dL_law_774 (by decide) ?_
      refine lv_iadd hx hb dL_law_775 ?_
      refine hz_ev 1 (by decide) ?_
      refine va_sld hx hb hX hbl hbA hS (by unfold vp_in; decide) dL_law_776 ?_
      refine hz_ev (xs 1) rfl ?_
      refine lv_aload_n hx hb dL_law_777 rfl (lv_at hl 3 rfl) ?_
      refine lv_iload_n hx hb dL_law_778 rfl (lv_at hl 0 rfl) ?_
      refine lv_iconst (v := 2) hx hb dL_law_779 (by decide) ?_
      refine lv_iadd hx hb dL_law_780 ?_
      refine hz_ev 2 (by decide) ?_
      refine va_sld hx hb hX hbl hbA hS (by unfold vp_in; decide) dL_law_781 ?_
      refine hz_ev (xs 2) rfl ?_
      refine lv_aload_n hx hb dL_law_782 rfl (lv_at hl 3 rfl) ?_
      refine lv_iload_n hx hb dL_law_783 rfl (lv_at hl 0 rfl) ?_
      refine lv_iconst (v := 3) hx hb dL_law_784 (by decide) ?_
      refine lv_iadd hx hb dL_law_785 ?_
      refine hz_ev 3 (by decide) ?_
      refine va_sld hx hb hX hbl hbA hS (by unfold vp_in; decide) dL_law_786 ?_
      refine hz_ev (xs 3) rfl ?_
      refine lv_aload_n hx hb dL_law_787 rfl (lv_at hl 3 rfl) ?_
      refine lv_iload_n hx hb dL_law_788 rfl (lv_at hl 0 rfl) ?_
      refine lv_iconst (v := 4) hx hb dL_law_789 (by decide) ?_
      refine lv_iadd hx hb dL_law_790 ?_
      refine hz_ev 4 (by decide) ?_
      refine va_sld hx hb hX hbl hbA hS (by unfold vp_in; decide) dL_law_791 ?_
      refine hz_ev (xs 4) rfl ?_
      refine lv_aload_n hx hb dL_law_792 rfl (lv_at hl 3 rfl) ?_
      refine lv_iload_n hx hb dL_law_793 rfl (lv_at hl 0 rfl) ?_
      refine lv_iconst (v := 5) hx hb dL_law_794 (by decide) ?_
      refine lv_iadd hx hb dL_law_795 ?_
      refine hz_ev 5 (by decide) ?_
      refine va_sld hx hb hX hbl hbA hS (by unfold vp_in; decide) dL_law_796 ?_
      refine hz_ev (xs 5) rfl ?_
      refine va_calli (va_runV (As := [.int (xs 1), .int (xs 2), .int (xs 3), .int (xs 4), .int (xs 5)]) (rest := []) ⟨hx, hb, hml, hown, hT⟩ (c_X11_yields l D cs kK kV g_3 r_4 (xs 1) (xs 2) (xs 3) (xs 4) (xs 5)) (cwV 5 hT (hz_gV q_555 q_556 q_557 q_174 q_558) rfl rfl rfl (by decide +kernel) ⟨(Nat.le_of_ble_eq_true rfl), (Nat.le_of_ble_eq_true rfl)⟩) ⟨hz_P.blind, va_recv hK hP (ci := 11) (q0 := 0) rfl rfl, hz_P.mk (hP.sub (ws' := [(g_3 0, .inr (11, [.ref (g_3 1), .ref (g_3 2), .ref (g_3 3), .ref (g_3 4), .int 0, .ref (g_3 5), .ref (g_3 6), .ref (g_3 7), .ref (g_3 8), .int 0, .int 0, .ref (g_3 9), .ref (g_3 10), .ref (g_3 11), .ref (g_3 12), .ref (g_3 13), .int 0])), (g_3 5, .inr (8, [.int 0, .int 0, .int 0, .int 0, .int 0, .int 12, .int 5, .int 1, .int 0, .ref (r_4 0), .ref (r_4 1), .ref (r_4 2), .ref (r_4 3), .ref (r_4 4), .ref (r_4 5), .ref (r_4 6), .ref (r_4 7), .ref (r_4 8)]))]) [0,5] rfl) hE hS⟩ rfl rfl hl.1 rfl (lv_room (Nat.le_of_ble_eq_true rfl)) dL_law_797 ⟨(Nat.le_of_ble_eq_true rfl), (Nat.le_of_ble_eq_true rfl)⟩) hS (fun _ _ h => h.elim) (fun _ h => h.elim) (fun r_48 u t H1 locs ht hvm hw hB hz1 hk1 hS => ?_)
      have hP := hz_keep hP hk1
      clear hk1 hB hz1
      generalize H1 = H at hP hS ⊢
      subst hw
      refine lv_aload_n hx hb dL_law_800 rfl (lv_at hl 1 rfl) ?_
      refine lv_aload_n hx hb dL_law_801 rfl (lv_at hl 3 rfl) ?_
      refine lv_iload_n hx hb dL_law_802 rfl (lv_at hl 0 rfl) ?_
      refine lv_iconst (v := 1) hx hb dL_law_803 (by decide) ?_
      refine lv_iadd hx hb dL_law_804 ?_
      refine hz_ev 1 (by decide) ?_
      refine va_sld hx hb hX hbl hbA hS (by unfold vp_in; decide) dL_law_805 ?_
      refine hz_ev (xs 1) rfl ?_
      refine lv_aload_n hx hb dL_law_806 rfl (lv_at hl 3 rfl) ?_
      refine lv_iload_n hx hb dL_law_807 rfl (lv_at hl 0 rfl) ?_
      refine lv_iconst (v := 2) hx hb dL_law_808 (by decide) ?_
      refine lv_iadd hx hb dL_law_809 ?_
      refine hz_ev 2 (by decide) ?_
      refine va_sld hx hb hX hbl hbA hS (by unfold vp_in; decide) dL_law_810 ?_
      refine hz_ev (xs 2) rfl ?_
      refine lv_aload_n hx hb dL_law_811 rfl (lv_at hl 3 rfl) ?_
      refine lv_iload_n hx hb dL_law_812 rfl (lv_at hl 0 rfl) ?_
      refine lv_iconst (v := 3) hx hb dL_law_813 (by decide) ?_
      refine lv_iadd hx hb dL_law_814 ?_
      refine hz_ev 3 (by decide) ?_
      refine va_sld hx hb hX hbl hbA hS (by unfold vp_in; decide) dL_law_815 ?_
      refine hz_ev (xs 3) rfl ?_
      refine lv_aload_n hx hb dL_law_816 rfl (lv_at hl 3 rfl) ?_
      refine lv_iload_n hx hb dL_law_817 rfl (lv_at hl 0 rfl) ?_
      refine lv_iconst (v := 4) hx hb dL_law_818 (by decide) ?_
      refine lv_iadd hx hb dL_law_819 ?_
      refine hz_ev 4 (by decide) ?_
      refine va_sld hx hb hX hbl hbA hS (by unfold vp_in; decide) dL_law_820 ?_
      refine hz_ev (xs 4) rfl ?_
      refine lv_aload_n hx hb dL_law_821 rfl (lv_at hl 3 rfl) ?_
      refine lv_iload_n hx hb dL_law_822 rfl (lv_at hl 0 rfl) ?_
      refine lv_iconst (v := 5) hx hb dL_law_823 (by decide) ?_
      refine lv_iadd hx hb dL_law_824 ?_
      refine hz_ev 5 (by decide) ?_
      refine va_sld hx hb hX hbl hbA hS (by unfold vp_in; decide) dL_law_825 ?_
      refine hz_ev (xs 5) rfl ?_
      refine va_calli (va_runV (As := [.int (xs 1), .int (xs 2), .int (xs 3), .int (xs 4), .int (xs 5)]) (rest := [.int (-1)]) ⟨hx, hb, hml, hown, hT⟩ (c_X12_yields l D cs kK kV g_7 (xs 1) (xs 2) (xs 3) (xs 4) (xs 5)) (cwV 5 hT (hz_gV q_559 q_560 q_561 q_252 q_562) rfl rfl rfl (by decide +kernel) ⟨(Nat.le_of_ble_eq_true rfl), (Nat.le_of_ble_eq_true rfl)⟩) ⟨hz_P.blind, va_recv hK hP (ci := 12) (q0 := 17) rfl rfl, hz_P.mk (hP.sub (ws' := [(g_7 0, .inr (12, [.ref (g_7 1), .int 0, .int 0, .ref (g_7 2), .ref (g_7 3), .ref (g_7 4), .ref (g_7 5), .ref (g_7 6), .int 0, .int 0, .int 0, .int 0, .int 0, .int 0, .int 0, .ref (g_7 7), .int 0, .ref (g_7 8), .int 0, .ref (g_7 9), .ref (g_7 10), .int 0, .ref (g_7 11), .ref (g_7 12), .ref (g_7 13), .int 0, .int 0, .ref (g_7 14), .ref (g_7 15), .int 0, .int 0, .int 0, .ref (g_7 16), .long 0, .ref (g_7 17), .ref (g_7 18), .ref (g_7 19)])), (g_7 10, .inl (cs 0, 123, .inl (fun _ => 0)))]) [17,22] rfl) hE hS⟩ rfl rfl hl.1 rfl (lv_room (Nat.le_of_ble_eq_true rfl)) dL_law_826 ⟨(Nat.le_of_ble_eq_true rfl), (Nat.le_of_ble_eq_true rfl)⟩) hS (fun _ _ h => h.elim) (fun _ h => h.elim) (fun r_49 u t H1 locs ht hvm hw hB hz1 hk1 hS => ?_)
      have hP := hz_keep hP hk1
      clear hk1 hB hz1
      generalize H1 = H at hP hS ⊢
      subst hw
      refine lv_icmp_eq (tgt := 1137) hx hb dL_law_829 (by decide) (fun _ => ?_) (fun z => absurd (by decide) z)
      refine lv_iinc (v := 6) (lv' := [(3, .int 6), (2, .ref (g_7 0)), (1, .ref (g_3 0)), (0, .ref b)]) hx hb dL_law_1137 hl (k := 0) rfl (by decide) (by decide) rfl (fun ls hl => ?_)
      refine lv_goto (tgt := 18) hx hb dL_law_1140 (by decide) ?_
      refine lv_iload_n hx hb dL_law_18 rfl (lv_at hl 0 rfl) ?_
      refine lv_aload_n hx hb dL_law_19 rfl (lv_at hl 3 rfl) ?_
      refine va_slen hx hb hX hbl hbA hS dL_law_20 ?_
      refine hz_ev 6 (by decide) ?_
      refine lv_bipush (v := 6) hx hb dL_law_21 (by decide) ?_
      refine lv_isub hx hb dL_law_23 ?_
      refine hz_ev 0 (by decide) ?_
      refine lv_icmp_gt (tgt := 1143) hx hb dL_law_24 (by decide) (fun _ => ?_) (fun z => absurd (by decide) z)
      refine lv_iconst (v := 1) hx hb dL_law_1143 (by decide) ?_
      refine va_forget (fun q hq => by have h9 := hS.2.2 q hq; rw [hAe] at h9; exact h9) ?_
      refine W.widen (k := 600000) (n := 7302250) (Nat.le_of_ble_eq_true rfl) (Nat.le_of_ble_eq_true rfl) ?_
      exact lw_ret hx hb hr hlocks dL_law_1144
    · refine lv_tableIn (off := 801) (tgt := 834) hx hb dL_law_33 (by decide) (by decide) (by decide) (by decide) ?_
      refine lv_aload_n hx hb dL_law_834 rfl (lv_at hl 2 rfl) ?_
      refine lv_aload_n hx hb dL_law_835 rfl (lv_at hl 3 rfl) ?_
      refine lv_iload_n hx hb dL_law_836 rfl (lv_at hl 0 rfl) ?_
      refine lv_iconst (v := 1) hx hb dL_law_837 (by decide) ?_
      refine lv_iadd hx hb dL_law_838 ?_
      refine hz_ev 1 (by decide) ?_
      refine va_sld hx hb hX hbl hbA hS (by unfold vp_in; decide) dL_law_839 ?_
      refine hz_ev (xs 1) rfl ?_
      refine lv_aload_n hx hb dL_law_840 rfl (lv_at hl 3 rfl) ?_
      refine lv_iload_n hx hb dL_law_841 rfl (lv_at hl 0 rfl) ?_
      refine lv_iconst (v := 2) hx hb dL_law_842 (by decide) ?_
      refine lv_iadd hx hb dL_law_843 ?_
      refine hz_ev 2 (by decide) ?_
      refine va_sld hx hb hX hbl hbA hS (by unfold vp_in; decide) dL_law_844 ?_
      refine hz_ev (xs 2) rfl ?_
      refine va_calli (va_runV (As := [.int (xs 1), .int (xs 2)]) (rest := []) ⟨hx, hb, hml, hown, hT⟩ (c_X11_cry l D cs kK kV g_3 r_4 (xs 1) (xs 2)) (cwV 2 hT (hz_gV q_563 q_564 q_565 q_174 q_566) rfl rfl rfl (by decide +kernel) ⟨(Nat.le_of_ble_eq_true rfl), (Nat.le_of_ble_eq_true rfl)⟩) ⟨hz_P.blind, va_recv hK hP (ci := 11) (q0 := 0) rfl rfl, hz_P.mk (hP.sub (ws' := [(g_3 0, .inr (11, [.ref (g_3 1), .ref (g_3 2), .ref (g_3 3), .ref (g_3 4), .int 0, .ref (g_3 5), .ref (g_3 6), .ref (g_3 7), .ref (g_3 8), .int 0, .int 0, .ref (g_3 9), .ref (g_3 10), .ref (g_3 11), .ref (g_3 12), .ref (g_3 13), .int 0])), (g_3 5, .inr (8, [.int 0, .int 0, .int 0, .int 0, .int 0, .int 12, .int 5, .int 1, .int 0, .ref (r_4 0), .ref (r_4 1), .ref (r_4 2), .ref (r_4 3), .ref (r_4 4), .ref (r_4 5), .ref (r_4 6), .ref (r_4 7), .ref (r_4 8)]))]) [0,5] rfl) hE hS⟩ rfl rfl hl.1 rfl (lv_room (Nat.le_of_ble_eq_true rfl)) dL_law_845 ⟨(Nat.le_of_ble_eq_true rfl), (Nat.le_of_ble_eq_true rfl)⟩) hS (fun _ _ h => h.elim) (fun _ h => h.elim) (fun r_50 u t H1 locs ht hvm hw hB hz1 hk1 hS => ?_)
      have hP := hz_keep hP hk1
      clear hk1 hB hz1
      generalize H1 = H at hP hS ⊢
      subst hw
      refine lv_aload_n hx hb dL_law_848 rfl (lv_at hl 1 rfl) ?_
      refine lv_aload_n hx hb dL_law_849 rfl (lv_at hl 3 rfl) ?_
      refine lv_iload_n hx hb dL_law_850 rfl (lv_at hl 0 rfl) ?_
      refine lv_iconst (v := 1) hx hb dL_law_851 (by decide) ?_
      refine lv_iadd hx hb dL_law_852 ?_
      refine hz_ev 1 (by decide) ?_
      refine va_sld hx hb hX hbl hbA hS (by unfold vp_in; decide) dL_law_853 ?_
      refine hz_ev (xs 1) rfl ?_
      refine lv_aload_n hx hb dL_law_854 rfl (lv_at hl 3 rfl) ?_
      refine lv_iload_n hx hb dL_law_855 rfl (lv_at hl 0 rfl) ?_
      refine lv_iconst (v := 2) hx hb dL_law_856 (by decide) ?_
      refine lv_iadd hx hb dL_law_857 ?_
      refine hz_ev 2 (by decide) ?_
      refine va_sld hx hb hX hbl hbA hS (by unfold vp_in; decide) dL_law_858 ?_
      refine hz_ev (xs 2) rfl ?_
      refine va_calli (va_runV (As := [.int (xs 1), .int (xs 2)]) (rest := [.int (-1)]) ⟨hx, hb, hml, hown, hT⟩ (c_X12_cry l D cs kK kV g_7 (xs 1) (xs 2)) (cwV 2 hT (hz_gV q_567 q_568 q_569 q_252 q_570) rfl rfl rfl (by decide +kernel) ⟨(Nat.le_of_ble_eq_true rfl), (Nat.le_of_ble_eq_true rfl)⟩) ⟨hz_P.blind, va_recv hK hP (ci := 12) (q0 := 17) rfl rfl, hz_P.mk (hP.sub (ws' := [(g_7 0, .inr (12, [.ref (g_7 1), .int 0, .int 0, .ref (g_7 2), .ref (g_7 3), .ref (g_7 4), .ref (g_7 5), .ref (g_7 6), .int 0, .int 0, .int 0, .int 0, .int 0, .int 0, .int 0, .ref (g_7 7), .int 0, .ref (g_7 8), .int 0, .ref (g_7 9), .ref (g_7 10), .int 0, .ref (g_7 11), .ref (g_7 12), .ref (g_7 13), .int 0, .int 0, .ref (g_7 14), .ref (g_7 15), .int 0, .int 0, .int 0, .ref (g_7 16), .long 0, .ref (g_7 17), .ref (g_7 18), .ref (g_7 19)])), (g_7 10, .inl (cs 0, 123, .inl (fun _ => 0)))]) [17,22] rfl) hE hS⟩ rfl rfl hl.1 rfl (lv_room (Nat.le_of_ble_eq_true rfl)) dL_law_859 ⟨(Nat.le_of_ble_eq_true rfl), (Nat.le_of_ble_eq_true rfl)⟩) hS (fun _ _ h => h.elim) (fun _ h => h.elim) (fun r_51 u t H1 locs ht hvm hw hB hz1 hk1 hS => ?_)
      have hP := hz_keep hP hk1
      clear hk1 hB hz1
      generalize H1 = H at hP hS ⊢
      subst hw
      refine lv_icmp_eq (tgt := 1137) hx hb dL_law_862 (by decide) (fun _ => ?_) (fun z => absurd (by decide) z)
      refine lv_iinc (v := 6) (lv' := [(3, .int 6), (2, .ref (g_7 0)), (1, .ref (g_3 0)), (0, .ref b)]) hx hb dL_law_1137 hl (k := 0) rfl (by decide) (by decide) rfl (fun ls hl => ?_)
      refine lv_goto (tgt := 18) hx hb dL_law_1140 (by decide) ?_
      refine lv_iload_n hx hb dL_law_18 rfl (lv_at hl 0 rfl) ?_
      refine lv_aload_n hx hb dL_law_19 rfl (lv_at hl 3 rfl) ?_
      refine va_slen hx hb hX hbl hbA hS dL_law_20 ?_
      refine hz_ev 6 (by decide) ?_
      refine lv_bipush (v := 6) hx hb dL_law_21 (by decide) ?_
      refine lv_isub hx hb dL_law_23 ?_
      refine hz_ev 0 (by decide) ?_
      refine lv_icmp_gt (tgt := 1143) hx hb dL_law_24 (by decide) (fun _ => ?_) (fun z => absurd (by decide) z)
      refine lv_iconst (v := 1) hx hb dL_law_1143 (by decide) ?_
      refine va_forget (fun q hq => by have h9 := hS.2.2 q hq; rw [hAe] at h9; exact h9) ?_
      refine W.widen (k := 600000) (n := 7302250) (Nat.le_of_ble_eq_true rfl) (Nat.le_of_ble_eq_true rfl) ?_
      exact lw_ret hx hb hr hlocks dL_law_1144
    · refine lv_tableIn (off := 834) (tgt := 867) hx hb dL_law_33 (by decide) (by decide) (by decide) (by decide) ?_
      refine lv_aload_n hx hb dL_law_867 rfl (lv_at hl 2 rfl) ?_
      refine lv_aload_n hx hb dL_law_868 rfl (lv_at hl 3 rfl) ?_
      refine lv_iload_n hx hb dL_law_869 rfl (lv_at hl 0 rfl) ?_
      refine lv_iconst (v := 1) hx hb dL_law_870 (by decide) ?_
      refine lv_iadd hx hb dL_law_871 ?_
      refine hz_ev 1 (by decide) ?_
      refine va_sld hx hb hX hbl hbA hS (by unfold vp_in; decide) dL_law_872 ?_
      refine hz_ev (xs 1) rfl ?_
      refine lv_aload_n hx hb dL_law_873 rfl (lv_at hl 3 rfl) ?_
      refine lv_iload_n hx hb dL_law_874 rfl (lv_at hl 0 rfl) ?_
      refine lv_iconst (v := 2) hx hb dL_law_875 (by decide) ?_
      refine lv_iadd hx hb dL_law_876 ?_
      refine hz_ev 2 (by decide) ?_
      refine va_sld hx hb hX hbl hbA hS (by unfold vp_in; decide) dL_law_877 ?_
      refine hz_ev (xs 2) rfl ?_
      refine lv_aload_n hx hb dL_law_878 rfl (lv_at hl 3 rfl) ?_
      refine lv_iload_n hx hb dL_law_879 rfl (lv_at hl 0 rfl) ?_
      refine lv_iconst (v := 3) hx hb dL_law_880 (by decide) ?_
      refine lv_iadd hx hb dL_law_881 ?_
      refine hz_ev 3 (by decide) ?_
      refine va_sld hx hb hX hbl hbA hS (by unfold vp_in; decide) dL_law_882 ?_
      refine hz_ev (xs 3) rfl ?_
      refine va_calli (va_runV (As := [.int (xs 1), .int (xs 2), .int (xs 3)]) (rest := []) ⟨hx, hb, hml, hown, hT⟩ (c_X11_bring l D cs kK kV g_3 r_4 (xs 1) (xs 2) (xs 3)) (cwV 3 hT (hz_gV q_571 q_572 q_573 q_174 q_574) rfl rfl rfl (by decide +kernel) ⟨(Nat.le_of_ble_eq_true rfl), (Nat.le_of_ble_eq_true rfl)⟩) ⟨hz_P.blind, va_recv hK hP (ci := 11) (q0 := 0) rfl rfl, hz_P.mk (hP.sub (ws' := [(g_3 0, .inr (11, [.ref (g_3 1), .ref (g_3 2), .ref (g_3 3), .ref (g_3 4), .int 0, .ref (g_3 5), .ref (g_3 6), .ref (g_3 7), .ref (g_3 8), .int 0, .int 0, .ref (g_3 9), .ref (g_3 10), .ref (g_3 11), .ref (g_3 12), .ref (g_3 13), .int 0]))]) [0] rfl) hE hS⟩ rfl rfl hl.1 rfl (lv_room (Nat.le_of_ble_eq_true rfl)) dL_law_883 ⟨(Nat.le_of_ble_eq_true rfl), (Nat.le_of_ble_eq_true rfl)⟩) hS (fun _ _ h => h.elim) (fun _ h => h.elim) (fun r_52 u t H1 locs ht hvm hw hB hz1 hk1 hS => ?_)
      have hP := hz_keep hP hk1
      clear hk1 hB hz1
      generalize H1 = H at hP hS ⊢
      subst hw
      refine lv_aload_n hx hb dL_law_886 rfl (lv_at hl 1 rfl) ?_
      refine lv_aload_n hx hb dL_law_887 rfl (lv_at hl 3 rfl) ?_
      refine lv_iload_n hx hb dL_law_888 rfl (lv_at hl 0 rfl) ?_
      refine lv_iconst (v := 1) hx hb dL_law_889 (by decide) ?_
      refine lv_iadd hx hb dL_law_890 ?_
      refine hz_ev 1 (by decide) ?_
      refine va_sld hx hb hX hbl hbA hS (by unfold vp_in; decide) dL_law_891 ?_
      refine hz_ev (xs 1) rfl ?_
      refine lv_aload_n hx hb dL_law_892 rfl (lv_at hl 3 rfl) ?_
      refine lv_iload_n hx hb dL_law_893 rfl (lv_at hl 0 rfl) ?_
      refine lv_iconst (v := 2) hx hb dL_law_894 (by decide) ?_
      refine lv_iadd hx hb dL_law_895 ?_
      refine hz_ev 2 (by decide) ?_
      refine va_sld hx hb hX hbl hbA hS (by unfold vp_in; decide) dL_law_896 ?_
      refine hz_ev (xs 2) rfl ?_
      refine lv_aload_n hx hb dL_law_897 rfl (lv_at hl 3 rfl) ?_
      refine lv_iload_n hx hb dL_law_898 rfl (lv_at hl 0 rfl) ?_
      refine lv_iconst (v := 3) hx hb dL_law_899 (by decide) ?_
      refine lv_iadd hx hb dL_law_900 ?_
      refine hz_ev 3 (by decide) ?_
      refine va_sld hx hb hX hbl hbA hS (by unfold vp_in; decide) dL_law_901 ?_
      refine hz_ev (xs 3) rfl ?_
      refine va_calli (va_runV (As := [.int (xs 1), .int (xs 2), .int (xs 3)]) (rest := [.int (-1)]) ⟨hx, hb, hml, hown, hT⟩ (c_X12_bring l D cs kK kV g_7 (xs 1) (xs 2) (xs 3)) (cwV 3 hT (hz_gV q_575 q_576 q_577 q_252 q_578) rfl rfl rfl (by decide +kernel) ⟨(Nat.le_of_ble_eq_true rfl), (Nat.le_of_ble_eq_true rfl)⟩) ⟨hz_P.blind, va_recv hK hP (ci := 12) (q0 := 17) rfl rfl, hz_P.mk (hP.sub (ws' := [(g_7 0, .inr (12, [.ref (g_7 1), .int 0, .int 0, .ref (g_7 2), .ref (g_7 3), .ref (g_7 4), .ref (g_7 5), .ref (g_7 6), .int 0, .int 0, .int 0, .int 0, .int 0, .int 0, .int 0, .ref (g_7 7), .int 0, .ref (g_7 8), .int 0, .ref (g_7 9), .ref (g_7 10), .int 0, .ref (g_7 11), .ref (g_7 12), .ref (g_7 13), .int 0, .int 0, .ref (g_7 14), .ref (g_7 15), .int 0, .int 0, .int 0, .ref (g_7 16), .long 0, .ref (g_7 17), .ref (g_7 18), .ref (g_7 19)]))]) [17] rfl) hE hS⟩ rfl rfl hl.1 rfl (lv_room (Nat.le_of_ble_eq_true rfl)) dL_law_902 ⟨(Nat.le_of_ble_eq_true rfl), (Nat.le_of_ble_eq_true rfl)⟩) hS (fun _ _ h => h.elim) (fun _ h => h.elim) (fun r_53 u t H1 locs ht hvm hw hB hz1 hk1 hS => ?_)
      have hP := hz_keep hP hk1
      clear hk1 hB hz1
      generalize H1 = H at hP hS ⊢
      subst hw
      refine lv_icmp_eq (tgt := 1137) hx hb dL_law_905 (by decide) (fun _ => ?_) (fun z => absurd (by decide) z)
      refine lv_iinc (v := 6) (lv' := [(3, .int 6), (2, .ref (g_7 0)), (1, .ref (g_3 0)), (0, .ref b)]) hx hb dL_law_1137 hl (k := 0) rfl (by decide) (by decide) rfl (fun ls hl => ?_)
      refine lv_goto (tgt := 18) hx hb dL_law_1140 (by decide) ?_
      refine lv_iload_n hx hb dL_law_18 rfl (lv_at hl 0 rfl) ?_
      refine lv_aload_n hx hb dL_law_19 rfl (lv_at hl 3 rfl) ?_
      refine va_slen hx hb hX hbl hbA hS dL_law_20 ?_
      refine hz_ev 6 (by decide) ?_
      refine lv_bipush (v := 6) hx hb dL_law_21 (by decide) ?_
      refine lv_isub hx hb dL_law_23 ?_
      refine hz_ev 0 (by decide) ?_
      refine lv_icmp_gt (tgt := 1143) hx hb dL_law_24 (by decide) (fun _ => ?_) (fun z => absurd (by decide) z)
      refine lv_iconst (v := 1) hx hb dL_law_1143 (by decide) ?_
      refine va_forget (fun q hq => by have h9 := hS.2.2 q hq; rw [hAe] at h9; exact h9) ?_
      refine W.widen (k := 600000) (n := 7302250) (Nat.le_of_ble_eq_true rfl) (Nat.le_of_ble_eq_true rfl) ?_
      exact lw_ret hx hb hr hlocks dL_law_1144
    · refine lv_tableIn (off := 877) (tgt := 910) hx hb dL_law_33 (by decide) (by decide) (by decide) (by decide) ?_
      refine lv_aload_n hx hb dL_law_910 rfl (lv_at hl 2 rfl) ?_
      refine lv_aload_n hx hb dL_law_911 rfl (lv_at hl 3 rfl) ?_
      refine lv_iload_n hx hb dL_law_912 rfl (lv_at hl 0 rfl) ?_
      refine lv_iconst (v := 1) hx hb dL_law_913 (by decide) ?_
      refine lv_iadd hx hb dL_law_914 ?_
      refine hz_ev 1 (by decide) ?_
      refine va_sld hx hb hX hbl hbA hS (by unfold vp_in; decide) dL_law_915 ?_
      refine hz_ev (xs 1) rfl ?_
      refine lv_aload_n hx hb dL_law_916 rfl (lv_at hl 3 rfl) ?_
      refine lv_iload_n hx hb dL_law_917 rfl (lv_at hl 0 rfl) ?_
      refine lv_iconst (v := 2) hx hb dL_law_918 (by decide) ?_
      refine lv_iadd hx hb dL_law_919 ?_
      refine hz_ev 2 (by decide) ?_
      refine va_sld hx hb hX hbl hbA hS (by unfold vp_in; decide) dL_law_920 ?_
      refine hz_ev (xs 2) rfl ?_
      refine lv_aload_n hx hb dL_law_921 rfl (lv_at hl 3 rfl) ?_
      refine lv_iload_n hx hb dL_law_922 rfl (lv_at hl 0 rfl) ?_
      refine lv_iconst (v := 3) hx hb dL_law_923 (by decide) ?_
      refine lv_iadd hx hb dL_law_924 ?_
      refine hz_ev 3 (by decide) ?_
      refine va_sld hx hb hX hbl hbA hS (by unfold vp_in; decide) dL_law_925 ?_
      refine hz_ev (xs 3) rfl ?_
      refine lv_if_eq (tgt := 933) hx hb dL_law_926 (by decide) (fun c_54 => ?_) (fun c_54 => ?_)
      · refine lv_iconst (v := 0) hx hb dL_law_933 (by decide) ?_
        have hFc := va_free (wc := [(g_3 0, .inr (11, [.ref (g_3 1), .ref (g_3 2), .ref (g_3 3), .ref (g_3 4), .int 0, .ref (g_3 5), .ref (g_3 6), .ref (g_3 7), .ref (g_3 8), .int 0, .int 0, .ref (g_3 9), .ref (g_3 10), .ref (g_3 11), .ref (g_3 12), .ref (g_3 13), .int 0])), (g_3 5, .inr (8, [.int 0, .int 0, .int 0, .int 0, .int 0, .int 12, .int 5, .int 1, .int 0, .ref (r_4 0), .ref (r_4 1), .ref (r_4 2), .ref (r_4 3), .ref (r_4 4), .ref (r_4 5), .ref (r_4 6), .ref (r_4 7), .ref (r_4 8)])), (g_3 9, .inr (9, [.int 0, .int 0, .int 0, .ref (g_3 21), .ref (g_3 22), .ref (g_3 23), .ref (g_3 24)]))]) hD hS hA [0,5,12] rfl
        refine va_calli (va_runV (As := [.int (xs 1), .int (xs 2), .int 0]) (rest := []) ⟨hx, hb, hml, hown, hT⟩ (c_X11_trial l D cs kK kV g_3 r_4 (xs 1) (xs 2) 0 H.size) (cwV 3 hT (hz_gV q_579 q_580 q_581 q_174 q_582) rfl rfl rfl (by decide +kernel) ⟨(Nat.le_of_ble_eq_true rfl), (Nat.le_of_ble_eq_true rfl)⟩) ⟨hz_C.blind, va_recv hK hP (ci := 11) (q0 := 0) rfl rfl, hz_C.mk (hP.sub (ws' := [(g_3 0, .inr (11, [.ref (g_3 1), .ref (g_3 2), .ref (g_3 3), .ref (g_3 4), .int 0, .ref (g_3 5), .ref (g_3 6), .ref (g_3 7), .ref (g_3 8), .int 0, .int 0, .ref (g_3 9), .ref (g_3 10), .ref (g_3 11), .ref (g_3 12), .ref (g_3 13), .int 0])), (g_3 5, .inr (8, [.int 0, .int 0, .int 0, .int 0, .int 0, .int 12, .int 5, .int 1, .int 0, .ref (r_4 0), .ref (r_4 1), .ref (r_4 2), .ref (r_4 3), .ref (r_4 4), .ref (r_4 5), .ref (r_4 6), .ref (r_4 7), .ref (r_4 8)])), (g_3 9, .inr (9, [.int 0, .int 0, .int 0, .ref (g_3 21), .ref (g_3 22), .ref (g_3 23), .ref (g_3 24)]))]) [0,5,12] rfl) (hD.sub (ws' := [(g_3 0, .inr (11, [.ref (g_3 1), .ref (g_3 2), .ref (g_3 3), .ref (g_3 4), .int 0, .ref (g_3 5), .ref (g_3 6), .ref (g_3 7), .ref (g_3 8), .int 0, .int 0, .ref (g_3 9), .ref (g_3 10), .ref (g_3 11), .ref (g_3 12), .ref (g_3 13), .int 0])), (g_3 5, .inr (8, [.int 0, .int 0, .int 0, .int 0, .int 0, .int 12, .int 5, .int 1, .int 0, .ref (r_4 0), .ref (r_4 1), .ref (r_4 2), .ref (r_4 3), .ref (r_4 4), .ref (r_4 5), .ref (r_4 6), .ref (r_4 7), .ref (r_4 8)])), (g_3 9, .inr (9, [.int 0, .int 0, .int 0, .ref (g_3 21), .ref (g_3 22), .ref (g_3 23), .ref (g_3 24)]))]) [0,5,12] (by decide) rfl) hE hS hFc⟩ rfl rfl hl.1 rfl (lv_room (Nat.le_of_ble_eq_true rfl)) dL_law_934 ⟨(Nat.le_of_ble_eq_true rfl), (Nat.le_of_ble_eq_true rfl)⟩) hS (fun q _ h => hFc q h) hFc (fun r_55 u t H1 locs ht hvm hw hB hz1 hk1 hS => ?_)
        obtain ⟨hP, hD⟩ := va_join (wr := [(g_7 0, .inr (12, [.ref (g_7 1), .int 0, .int 0, .ref (g_7 2), .ref (g_7 3), .ref (g_7 4), .ref (g_7 5), .ref (g_7 6), .int 0, .int 0, .int 0, .int 0, .int 0, .int 0, .int 0, .ref (g_7 7), .int 0, .ref (g_7 8), .int 0, .ref (g_7 9), .ref (g_7 10), .int 0, .ref (g_7 11), .ref (g_7 12), .ref (g_7 13), .int 0, .int 0, .ref (g_7 14), .ref (g_7 15), .int 0, .int 0, .int 0, .ref (g_7 16), .long 0, .ref (g_7 17), .ref (g_7 18), .ref (g_7 19)])), (g_7 1, .inl (cs 1, 400, .inl (fun _ => 0))), (g_7 3, .inl (cs 0, 7, .inl (fun _ => 0))), (g_7 5, .inl (cs 0, 6, .inl (fun _ => 0))), (g_7 6, .inl (cs 0, 86, .inl (fun _ => 0))), (g_7 10, .inl (cs 0, 123, .inl (fun _ => 0))), (g_7 17, .inl (cs 0, 492, .inl (fun _ => 0))), (g_7 18, .inl (cs 0, 4, .inl (fun _ => 0))), (g_7 19, .inl (cs 2, 4, .inl (fun _ => 0)))]) (w1 := []) hP hD [0, 5, 12] [17, 18, 19, 20, 21, 22, 23, 24, 25] rfl rfl (by decide) (by decide) hk1 hFc hz_P0 hz_D0
        generalize H1 = H at hP hS ⊢
        have hP : va_P D classes [(g_7 0, .inr (12, [.ref (g_7 1), .int 0, .int 0, .ref (g_7 2), .ref (g_7 3), .ref (g_7 4), .ref (g_7 5), .ref (g_7 6), .int 0, .int 0, .int 0, .int 0, .int 0, .int 0, .int 0, .ref (g_7 7), .int 0, .ref (g_7 8), .int 0, .ref (g_7 9), .ref (g_7 10), .int 0, .ref (g_7 11), .ref (g_7 12), .ref (g_7 13), .int 0, .int 0, .ref (g_7 14), .ref (g_7 15), .int 0, .int 0, .int 0, .ref (g_7 16), .long 0, .ref (g_7 17), .ref (g_7 18), .ref (g_7 19)])), (g_7 1, .inl (cs 1, 400, .inl (fun _ => 0))), (g_7 3, .inl (cs 0, 7, .inl (fun _ => 0))), (g_7 5, .inl (cs 0, 6, .inl (fun _ => 0))), (g_7 6, .inl (cs 0, 86, .inl (fun _ => 0))), (g_7 10, .inl (cs 0, 123, .inl (fun _ => 0))), (g_7 17, .inl (cs 0, 492, .inl (fun _ => 0))), (g_7 18, .inl (cs 0, 4, .inl (fun _ => 0))), (g_7 19, .inl (cs 2, 4, .inl (fun _ => 0)))] H := hP
        have hD : va_D A [(g_7 0, .inr (12, [.ref (g_7 1), .int 0, .int 0, .ref (g_7 2), .ref (g_7 3), .ref (g_7 4), .ref (g_7 5), .ref (g_7 6), .int 0, .int 0, .int 0, .int 0, .int 0, .int 0, .int 0, .ref (g_7 7), .int 0, .ref (g_7 8), .int 0, .ref (g_7 9), .ref (g_7 10), .int 0, .ref (g_7 11), .ref (g_7 12), .ref (g_7 13), .int 0, .int 0, .ref (g_7 14), .ref (g_7 15), .int 0, .int 0, .int 0, .ref (g_7 16), .long 0, .ref (g_7 17), .ref (g_7 18), .ref (g_7 19)])), (g_7 1, .inl (cs 1, 400, .inl (fun _ => 0))), (g_7 3, .inl (cs 0, 7, .inl (fun _ => 0))), (g_7 5, .inl (cs 0, 6, .inl (fun _ => 0))), (g_7 6, .inl (cs 0, 86, .inl (fun _ => 0))), (g_7 10, .inl (cs 0, 123, .inl (fun _ => 0))), (g_7 17, .inl (cs 0, 492, .inl (fun _ => 0))), (g_7 18, .inl (cs 0, 4, .inl (fun _ => 0))), (g_7 19, .inl (cs 2, 4, .inl (fun _ => 0)))] := hD
        clear hk1 hFc hz1
        subst hw
        refine lv_aload_n hx hb dL_law_937 rfl (lv_at hl 1 rfl) ?_
        refine lv_aload_n hx hb dL_law_938 rfl (lv_at hl 3 rfl) ?_
        refine lv_iload_n hx hb dL_law_939 rfl (lv_at hl 0 rfl) ?_
        refine lv_iconst (v := 1) hx hb dL_law_940 (by decide) ?_
        refine lv_iadd hx hb dL_law_941 ?_
        refine hz_ev 1 (by decide) ?_
        refine va_sld hx hb hX hbl hbA hS (by unfold vp_in; decide) dL_law_942 ?_
        refine hz_ev (xs 1) rfl ?_
        refine lv_aload_n hx hb dL_law_943 rfl (lv_at hl 3 rfl) ?_
        refine lv_iload_n hx hb dL_law_944 rfl (lv_at hl 0 rfl) ?_
        refine lv_iconst (v := 2) hx hb dL_law_945 (by decide) ?_
        refine lv_iadd hx hb dL_law_946 ?_
        refine hz_ev 2 (by decide) ?_
        refine va_sld hx hb hX hbl hbA hS (by unfold vp_in; decide) dL_law_947 ?_
        refine hz_ev (xs 2) rfl ?_
        refine lv_aload_n hx hb dL_law_948 rfl (lv_at hl 3 rfl) ?_
        refine lv_iload_n hx hb dL_law_949 rfl (lv_at hl 0 rfl) ?_
        refine lv_iconst (v := 3) hx hb dL_law_950 (by decide) ?_
        refine lv_iadd hx hb dL_law_951 ?_
        refine hz_ev 3 (by decide) ?_
        refine va_sld hx hb hX hbl hbA hS (by unfold vp_in; decide) dL_law_952 ?_
        refine hz_ev (xs 3) rfl ?_
        refine lv_if_eq (tgt := 960) hx hb dL_law_953 (by decide) (fun _ => ?_) (fun z => absurd c_54 z)
        refine lv_iconst (v := 0) hx hb dL_law_960 (by decide) ?_
        have hFc := va_free (wc := [(g_7 0, .inr (12, [.ref (g_7 1), .int 0, .int 0, .ref (g_7 2), .ref (g_7 3), .ref (g_7 4), .ref (g_7 5), .ref (g_7 6), .int 0, .int 0, .int 0, .int 0, .int 0, .int 0, .int 0, .ref (g_7 7), .int 0, .ref (g_7 8), .int 0, .ref (g_7 9), .ref (g_7 10), .int 0, .ref (g_7 11), .ref (g_7 12), .ref (g_7 13), .int 0, .int 0, .ref (g_7 14), .ref (g_7 15), .int 0, .int 0, .int 0, .ref (g_7 16), .long 0, .ref (g_7 17), .ref (g_7 18), .ref (g_7 19)])), (g_7 10, .inl (cs 0, 123, .inl (fun _ => 0)))]) hD hS hA [0,5] rfl
        refine va_calli (va_runV (As := [.int (xs 1), .int (xs 2), .int 0]) (rest := [.int (hz_trial (xs 1))]) ⟨hx, hb, hml, hown, hT⟩ (c_X12_trial l D cs kK kV g_7 (xs 1) (xs 2) 0 H.size) (cwV 3 hT (hz_gV q_583 q_584 q_585 q_252 q_586) rfl rfl rfl (by decide +kernel) ⟨(Nat.le_of_ble_eq_true rfl), (Nat.le_of_ble_eq_true rfl)⟩) ⟨hz_C.blind, va_recv hK hP (ci := 12) (q0 := 0) rfl rfl, hz_C.mk (hP.sub (ws' := [(g_7 0, .inr (12, [.ref (g_7 1), .int 0, .int 0, .ref (g_7 2), .ref (g_7 3), .ref (g_7 4), .ref (g_7 5), .ref (g_7 6), .int 0, .int 0, .int 0, .int 0, .int 0, .int 0, .int 0, .ref (g_7 7), .int 0, .ref (g_7 8), .int 0, .ref (g_7 9), .ref (g_7 10), .int 0, .ref (g_7 11), .ref (g_7 12), .ref (g_7 13), .int 0, .int 0, .ref (g_7 14), .ref (g_7 15), .int 0, .int 0, .int 0, .ref (g_7 16), .long 0, .ref (g_7 17), .ref (g_7 18), .ref (g_7 19)])), (g_7 10, .inl (cs 0, 123, .inl (fun _ => 0)))]) [0,5] rfl) (hD.sub (ws' := [(g_7 0, .inr (12, [.ref (g_7 1), .int 0, .int 0, .ref (g_7 2), .ref (g_7 3), .ref (g_7 4), .ref (g_7 5), .ref (g_7 6), .int 0, .int 0, .int 0, .int 0, .int 0, .int 0, .int 0, .ref (g_7 7), .int 0, .ref (g_7 8), .int 0, .ref (g_7 9), .ref (g_7 10), .int 0, .ref (g_7 11), .ref (g_7 12), .ref (g_7 13), .int 0, .int 0, .ref (g_7 14), .ref (g_7 15), .int 0, .int 0, .int 0, .ref (g_7 16), .long 0, .ref (g_7 17), .ref (g_7 18), .ref (g_7 19)])), (g_7 10, .inl (cs 0, 123, .inl (fun _ => 0)))]) [0,5] (by decide) rfl) hE hS hFc⟩ rfl rfl hl.1 rfl (lv_room (Nat.le_of_ble_eq_true rfl)) dL_law_961 ⟨(Nat.le_of_ble_eq_true rfl), (Nat.le_of_ble_eq_true rfl)⟩) hS (fun q _ h => hFc q h) hFc (fun r_56 u t H1 locs ht hvm hw hB hz1 hk1 hS => ?_)
        obtain ⟨hP, hD⟩ := va_join (wr := [(g_7 1, .inl (cs 1, 400, .inl (fun _ => 0))), (g_7 3, .inl (cs 0, 7, .inl (fun _ => 0))), (g_7 5, .inl (cs 0, 6, .inl (fun _ => 0))), (g_7 6, .inl (cs 0, 86, .inl (fun _ => 0))), (g_7 17, .inl (cs 0, 492, .inl (fun _ => 0))), (g_7 18, .inl (cs 0, 4, .inl (fun _ => 0))), (g_7 19, .inl (cs 2, 4, .inl (fun _ => 0)))]) (w1 := []) hP hD [0, 5] [1, 2, 3, 4, 6, 7, 8] rfl rfl (by decide) (by decide) hk1 hFc hz_P0 hz_D0
        generalize H1 = H at hP hS ⊢
        have hP : va_P D classes [(g_7 1, .inl (cs 1, 400, .inl (fun _ => 0))), (g_7 3, .inl (cs 0, 7, .inl (fun _ => 0))), (g_7 5, .inl (cs 0, 6, .inl (fun _ => 0))), (g_7 6, .inl (cs 0, 86, .inl (fun _ => 0))), (g_7 17, .inl (cs 0, 492, .inl (fun _ => 0))), (g_7 18, .inl (cs 0, 4, .inl (fun _ => 0))), (g_7 19, .inl (cs 2, 4, .inl (fun _ => 0)))] H := hP
        have hD : va_D A [(g_7 1, .inl (cs 1, 400, .inl (fun _ => 0))), (g_7 3, .inl (cs 0, 7, .inl (fun _ => 0))), (g_7 5, .inl (cs 0, 6, .inl (fun _ => 0))), (g_7 6, .inl (cs 0, 86, .inl (fun _ => 0))), (g_7 17, .inl (cs 0, 492, .inl (fun _ => 0))), (g_7 18, .inl (cs 0, 4, .inl (fun _ => 0))), (g_7 19, .inl (cs 2, 4, .inl (fun _ => 0)))] := hD
        clear hk1 hFc hz1
        subst hw
        refine lv_icmp_eq (tgt := 1137) hx hb dL_law_964 (by decide) (fun _ => ?_) (fun z => absurd rfl z)
        refine lv_iinc (v := 6) (lv' := [(3, .int 6), (2, .ref (g_7 0)), (1, .ref (g_3 0)), (0, .ref b)]) hx hb dL_law_1137 hl (k := 0) rfl (by decide) (by decide) rfl (fun ls hl => ?_)
        refine lv_goto (tgt := 18) hx hb dL_law_1140 (by decide) ?_
        refine lv_iload_n hx hb dL_law_18 rfl (lv_at hl 0 rfl) ?_
        refine lv_aload_n hx hb dL_law_19 rfl (lv_at hl 3 rfl) ?_
        refine va_slen hx hb hX hbl hbA hS dL_law_20 ?_
        refine hz_ev 6 (by decide) ?_
        refine lv_bipush (v := 6) hx hb dL_law_21 (by decide) ?_
        refine lv_isub hx hb dL_law_23 ?_
        refine hz_ev 0 (by decide) ?_
        refine lv_icmp_gt (tgt := 1143) hx hb dL_law_24 (by decide) (fun _ => ?_) (fun z => absurd (by decide) z)
        refine lv_iconst (v := 1) hx hb dL_law_1143 (by decide) ?_
        refine va_forget (fun q hq => by have h9 := hS.2.2 q hq; rw [hAe] at h9; exact h9) ?_
        refine W.widen (k := 600000) (n := 7302250) (Nat.le_of_ble_eq_true rfl) (Nat.le_of_ble_eq_true rfl) ?_
        exact lw_ret hx hb hr hlocks dL_law_1144
      · refine lv_iconst (v := 1) hx hb dL_law_929 (by decide) ?_
        refine lv_goto (tgt := 934) hx hb dL_law_930 (by decide) ?_
        have hFc := va_free (wc := [(g_3 0, .inr (11, [.ref (g_3 1), .ref (g_3 2), .ref (g_3 3), .ref (g_3 4), .int 0, .ref (g_3 5), .ref (g_3 6), .ref (g_3 7), .ref (g_3 8), .int 0, .int 0, .ref (g_3 9), .ref (g_3 10), .ref (g_3 11), .ref (g_3 12), .ref (g_3 13), .int 0])), (g_3 5, .inr (8, [.int 0, .int 0, .int 0, .int 0, .int 0, .int 12, .int 5, .int 1, .int 0, .ref (r_4 0), .ref (r_4 1), .ref (r_4 2), .ref (r_4 3), .ref (r_4 4), .ref (r_4 5), .ref (r_4 6), .ref (r_4 7), .ref (r_4 8)])), (g_3 9, .inr (9, [.int 0, .int 0, .int 0, .ref (g_3 21), .ref (g_3 22), .ref (g_3 23), .ref (g_3 24)]))]) hD hS hA [0,5,12] rfl
        refine va_calli (va_runV (As := [.int (xs 1), .int (xs 2), .int 1]) (rest := []) ⟨hx, hb, hml, hown, hT⟩ (c_X11_trial l D cs kK kV g_3 r_4 (xs 1) (xs 2) 1 H.size) (cwV 3 hT (hz_gV q_579 q_580 q_581 q_174 q_582) rfl rfl rfl (by decide +kernel) ⟨(Nat.le_of_ble_eq_true rfl), (Nat.le_of_ble_eq_true rfl)⟩) ⟨hz_C.blind, va_recv hK hP (ci := 11) (q0 := 0) rfl rfl, hz_C.mk (hP.sub (ws' := [(g_3 0, .inr (11, [.ref (g_3 1), .ref (g_3 2), .ref (g_3 3), .ref (g_3 4), .int 0, .ref (g_3 5), .ref (g_3 6), .ref (g_3 7), .ref (g_3 8), .int 0, .int 0, .ref (g_3 9), .ref (g_3 10), .ref (g_3 11), .ref (g_3 12), .ref (g_3 13), .int 0])), (g_3 5, .inr (8, [.int 0, .int 0, .int 0, .int 0, .int 0, .int 12, .int 5, .int 1, .int 0, .ref (r_4 0), .ref (r_4 1), .ref (r_4 2), .ref (r_4 3), .ref (r_4 4), .ref (r_4 5), .ref (r_4 6), .ref (r_4 7), .ref (r_4 8)])), (g_3 9, .inr (9, [.int 0, .int 0, .int 0, .ref (g_3 21), .ref (g_3 22), .ref (g_3 23), .ref (g_3 24)]))]) [0,5,12] rfl) (hD.sub (ws' := [(g_3 0, .inr (11, [.ref (g_3 1), .ref (g_3 2), .ref (g_3 3), .ref (g_3 4), .int 0, .ref (g_3 5), .ref (g_3 6), .ref (g_3 7), .ref (g_3 8), .int 0, .int 0, .ref (g_3 9), .ref (g_3 10), .ref (g_3 11), .ref (g_3 12), .ref (g_3 13), .int 0])), (g_3 5, .inr (8, [.int 0, .int 0, .int 0, .int 0, .int 0, .int 12, .int 5, .int 1, .int 0, .ref (r_4 0), .ref (r_4 1), .ref (r_4 2), .ref (r_4 3), .ref (r_4 4), .ref (r_4 5), .ref (r_4 6), .ref (r_4 7), .ref (r_4 8)])), (g_3 9, .inr (9, [.int 0, .int 0, .int 0, .ref (g_3 21), .ref (g_3 22), .ref (g_3 23), .ref (g_3 24)]))]) [0,5,12] (by decide) rfl) hE hS hFc⟩ rfl rfl hl.1 rfl (lv_room (Nat.le_of_ble_eq_true rfl)) dL_law_934 ⟨(Nat.le_of_ble_eq_true rfl), (Nat.le_of_ble_eq_true rfl)⟩) hS (fun q _ h => hFc q h) hFc (fun r_57 u t H1 locs ht hvm hw hB hz1 hk1 hS => ?_)
        obtain ⟨hP, hD⟩ := va_join (wr := [(g_7 0, .inr (12, [.ref (g_7 1), .int 0, .int 0, .ref (g_7 2), .ref (g_7 3), .ref (g_7 4), .ref (g_7 5), .ref (g_7 6), .int 0, .int 0, .int 0, .int 0, .int 0, .int 0, .int 0, .ref (g_7 7), .int 0, .ref (g_7 8), .int 0, .ref (g_7 9), .ref (g_7 10), .int 0, .ref (g_7 11), .ref (g_7 12), .ref (g_7 13), .int 0, .int 0, .ref (g_7 14), .ref (g_7 15), .int 0, .int 0, .int 0, .ref (g_7 16), .long 0, .ref (g_7 17), .ref (g_7 18), .ref (g_7 19)])), (g_7 1, .inl (cs 1, 400, .inl (fun _ => 0))), (g_7 3, .inl (cs 0, 7, .inl (fun _ => 0))), (g_7 5, .inl (cs 0, 6, .inl (fun _ => 0))), (g_7 6, .inl (cs 0, 86, .inl (fun _ => 0))), (g_7 10, .inl (cs 0, 123, .inl (fun _ => 0))), (g_7 17, .inl (cs 0, 492, .inl (fun _ => 0))), (g_7 18, .inl (cs 0, 4, .inl (fun _ => 0))), (g_7 19, .inl (cs 2, 4, .inl (fun _ => 0)))]) (w1 := []) hP hD [0, 5, 12] [17, 18, 19, 20, 21, 22, 23, 24, 25] rfl rfl (by decide) (by decide) hk1 hFc hz_P0 hz_D0
        generalize H1 = H at hP hS ⊢
        have hP : va_P D classes [(g_7 0, .inr (12, [.ref (g_7 1), .int 0, .int 0, .ref (g_7 2), .ref (g_7 3), .ref (g_7 4), .ref (g_7 5), .ref (g_7 6), .int 0, .int 0, .int 0, .int 0, .int 0, .int 0, .int 0, .ref (g_7 7), .int 0, .ref (g_7 8), .int 0, .ref (g_7 9), .ref (g_7 10), .int 0, .ref (g_7 11), .ref (g_7 12), .ref (g_7 13), .int 0, .int 0, .ref (g_7 14), .ref (g_7 15), .int 0, .int 0, .int 0, .ref (g_7 16), .long 0, .ref (g_7 17), .ref (g_7 18), .ref (g_7 19)])), (g_7 1, .inl (cs 1, 400, .inl (fun _ => 0))), (g_7 3, .inl (cs 0, 7, .inl (fun _ => 0))), (g_7 5, .inl (cs 0, 6, .inl (fun _ => 0))), (g_7 6, .inl (cs 0, 86, .inl (fun _ => 0))), (g_7 10, .inl (cs 0, 123, .inl (fun _ => 0))), (g_7 17, .inl (cs 0, 492, .inl (fun _ => 0))), (g_7 18, .inl (cs 0, 4, .inl (fun _ => 0))), (g_7 19, .inl (cs 2, 4, .inl (fun _ => 0)))] H := hP
        have hD : va_D A [(g_7 0, .inr (12, [.ref (g_7 1), .int 0, .int 0, .ref (g_7 2), .ref (g_7 3), .ref (g_7 4), .ref (g_7 5), .ref (g_7 6), .int 0, .int 0, .int 0, .int 0, .int 0, .int 0, .int 0, .ref (g_7 7), .int 0, .ref (g_7 8), .int 0, .ref (g_7 9), .ref (g_7 10), .int 0, .ref (g_7 11), .ref (g_7 12), .ref (g_7 13), .int 0, .int 0, .ref (g_7 14), .ref (g_7 15), .int 0, .int 0, .int 0, .ref (g_7 16), .long 0, .ref (g_7 17), .ref (g_7 18), .ref (g_7 19)])), (g_7 1, .inl (cs 1, 400, .inl (fun _ => 0))), (g_7 3, .inl (cs 0, 7, .inl (fun _ => 0))), (g_7 5, .inl (cs 0, 6, .inl (fun _ => 0))), (g_7 6, .inl (cs 0, 86, .inl (fun _ => 0))), (g_7 10, .inl (cs 0, 123, .inl (fun _ => 0))), (g_7 17, .inl (cs 0, 492, .inl (fun _ => 0))), (g_7 18, .inl (cs 0, 4, .inl (fun _ => 0))), (g_7 19, .inl (cs 2, 4, .inl (fun _ => 0)))] := hD
        clear hk1 hFc hz1
        subst hw
        refine lv_aload_n hx hb dL_law_937 rfl (lv_at hl 1 rfl) ?_
        refine lv_aload_n hx hb dL_law_938 rfl (lv_at hl 3 rfl) ?_
        refine lv_iload_n hx hb dL_law_939 rfl (lv_at hl 0 rfl) ?_
        refine lv_iconst (v := 1) hx hb dL_law_940 (by decide) ?_
        refine lv_iadd hx hb dL_law_941 ?_
        refine hz_ev 1 (by decide) ?_
        refine va_sld hx hb hX hbl hbA hS (by unfold vp_in; decide) dL_law_942 ?_
        refine hz_ev (xs 1) rfl ?_
        refine lv_aload_n hx hb dL_law_943 rfl (lv_at hl 3 rfl) ?_
        refine lv_iload_n hx hb dL_law_944 rfl (lv_at hl 0 rfl) ?_
        refine lv_iconst (v := 2) hx hb dL_law_945 (by decide) ?_
        refine lv_iadd hx hb dL_law_946 ?_
        refine hz_ev 2 (by decide) ?_
        refine va_sld hx hb hX hbl hbA hS (by unfold vp_in; decide) dL_law_947 ?_
        refine hz_ev (xs 2) rfl ?_
        refine lv_aload_n hx hb dL_law_948 rfl (lv_at hl 3 rfl) ?_
        refine lv_iload_n hx hb dL_law_949 rfl (lv_at hl 0 rfl) ?_
        refine lv_iconst (v := 3) hx hb dL_law_950 (by decide) ?_
        refine lv_iadd hx hb dL_law_951 ?_
        refine hz_ev 3 (by decide) ?_
        refine va_sld hx hb hX hbl hbA hS (by unfold vp_in; decide) dL_law_952 ?_
        refine hz_ev (xs 3) rfl ?_
        refine lv_if_eq (tgt := 960) hx hb dL_law_953 (by decide) (fun z => absurd z c_54) (fun _ => ?_)
        refine lv_iconst (v := 1) hx hb dL_law_956 (by decide) ?_
        refine lv_goto (tgt := 961) hx hb dL_law_957 (by decide) ?_
        have hFc := va_free (wc := [(g_7 0, .inr (12, [.ref (g_7 1), .int 0, .int 0, .ref (g_7 2), .ref (g_7 3), .ref (g_7 4), .ref (g_7 5), .ref (g_7 6), .int 0, .int 0, .int 0, .int 0, .int 0, .int 0, .int 0, .ref (g_7 7), .int 0, .ref (g_7 8), .int 0, .ref (g_7 9), .ref (g_7 10), .int 0, .ref (g_7 11), .ref (g_7 12), .ref (g_7 13), .int 0, .int 0, .ref (g_7 14), .ref (g_7 15), .int 0, .int 0, .int 0, .ref (g_7 16), .long 0, .ref (g_7 17), .ref (g_7 18), .ref (g_7 19)])), (g_7 10, .inl (cs 0, 123, .inl (fun _ => 0)))]) hD hS hA [0,5] rfl
        refine va_calli (va_runV (As := [.int (xs 1), .int (xs 2), .int 1]) (rest := [.int (hz_trial (xs 1))]) ⟨hx, hb, hml, hown, hT⟩ (c_X12_trial l D cs kK kV g_7 (xs 1) (xs 2) 1 H.size) (cwV 3 hT (hz_gV q_583 q_584 q_585 q_252 q_586) rfl rfl rfl (by decide +kernel) ⟨(Nat.le_of_ble_eq_true rfl), (Nat.le_of_ble_eq_true rfl)⟩) ⟨hz_C.blind, va_recv hK hP (ci := 12) (q0 := 0) rfl rfl, hz_C.mk (hP.sub (ws' := [(g_7 0, .inr (12, [.ref (g_7 1), .int 0, .int 0, .ref (g_7 2), .ref (g_7 3), .ref (g_7 4), .ref (g_7 5), .ref (g_7 6), .int 0, .int 0, .int 0, .int 0, .int 0, .int 0, .int 0, .ref (g_7 7), .int 0, .ref (g_7 8), .int 0, .ref (g_7 9), .ref (g_7 10), .int 0, .ref (g_7 11), .ref (g_7 12), .ref (g_7 13), .int 0, .int 0, .ref (g_7 14), .ref (g_7 15), .int 0, .int 0, .int 0, .ref (g_7 16), .long 0, .ref (g_7 17), .ref (g_7 18), .ref (g_7 19)])), (g_7 10, .inl (cs 0, 123, .inl (fun _ => 0)))]) [0,5] rfl) (hD.sub (ws' := [(g_7 0, .inr (12, [.ref (g_7 1), .int 0, .int 0, .ref (g_7 2), .ref (g_7 3), .ref (g_7 4), .ref (g_7 5), .ref (g_7 6), .int 0, .int 0, .int 0, .int 0, .int 0, .int 0, .int 0, .ref (g_7 7), .int 0, .ref (g_7 8), .int 0, .ref (g_7 9), .ref (g_7 10), .int 0, .ref (g_7 11), .ref (g_7 12), .ref (g_7 13), .int 0, .int 0, .ref (g_7 14), .ref (g_7 15), .int 0, .int 0, .int 0, .ref (g_7 16), .long 0, .ref (g_7 17), .ref (g_7 18), .ref (g_7 19)])), (g_7 10, .inl (cs 0, 123, .inl (fun _ => 0)))]) [0,5] (by decide) rfl) hE hS hFc⟩ rfl rfl hl.1 rfl (lv_room (Nat.le_of_ble_eq_true rfl)) dL_law_961 ⟨(Nat.le_of_ble_eq_true rfl), (Nat.le_of_ble_eq_true rfl)⟩) hS (fun q _ h => hFc q h) hFc (fun r_58 u t H1 locs ht hvm hw hB hz1 hk1 hS => ?_)
        obtain ⟨hP, hD⟩ := va_join (wr := [(g_7 1, .inl (cs 1, 400, .inl (fun _ => 0))), (g_7 3, .inl (cs 0, 7, .inl (fun _ => 0))), (g_7 5, .inl (cs 0, 6, .inl (fun _ => 0))), (g_7 6, .inl (cs 0, 86, .inl (fun _ => 0))), (g_7 17, .inl (cs 0, 492, .inl (fun _ => 0))), (g_7 18, .inl (cs 0, 4, .inl (fun _ => 0))), (g_7 19, .inl (cs 2, 4, .inl (fun _ => 0)))]) (w1 := []) hP hD [0, 5] [1, 2, 3, 4, 6, 7, 8] rfl rfl (by decide) (by decide) hk1 hFc hz_P0 hz_D0
        generalize H1 = H at hP hS ⊢
        have hP : va_P D classes [(g_7 1, .inl (cs 1, 400, .inl (fun _ => 0))), (g_7 3, .inl (cs 0, 7, .inl (fun _ => 0))), (g_7 5, .inl (cs 0, 6, .inl (fun _ => 0))), (g_7 6, .inl (cs 0, 86, .inl (fun _ => 0))), (g_7 17, .inl (cs 0, 492, .inl (fun _ => 0))), (g_7 18, .inl (cs 0, 4, .inl (fun _ => 0))), (g_7 19, .inl (cs 2, 4, .inl (fun _ => 0)))] H := hP
        have hD : va_D A [(g_7 1, .inl (cs 1, 400, .inl (fun _ => 0))), (g_7 3, .inl (cs 0, 7, .inl (fun _ => 0))), (g_7 5, .inl (cs 0, 6, .inl (fun _ => 0))), (g_7 6, .inl (cs 0, 86, .inl (fun _ => 0))), (g_7 17, .inl (cs 0, 492, .inl (fun _ => 0))), (g_7 18, .inl (cs 0, 4, .inl (fun _ => 0))), (g_7 19, .inl (cs 2, 4, .inl (fun _ => 0)))] := hD
        clear hk1 hFc hz1
        subst hw
        refine lv_icmp_eq (tgt := 1137) hx hb dL_law_964 (by decide) (fun _ => ?_) (fun z => absurd rfl z)
        refine lv_iinc (v := 6) (lv' := [(3, .int 6), (2, .ref (g_7 0)), (1, .ref (g_3 0)), (0, .ref b)]) hx hb dL_law_1137 hl (k := 0) rfl (by decide) (by decide) rfl (fun ls hl => ?_)
        refine lv_goto (tgt := 18) hx hb dL_law_1140 (by decide) ?_
        refine lv_iload_n hx hb dL_law_18 rfl (lv_at hl 0 rfl) ?_
        refine lv_aload_n hx hb dL_law_19 rfl (lv_at hl 3 rfl) ?_
        refine va_slen hx hb hX hbl hbA hS dL_law_20 ?_
        refine hz_ev 6 (by decide) ?_
        refine lv_bipush (v := 6) hx hb dL_law_21 (by decide) ?_
        refine lv_isub hx hb dL_law_23 ?_
        refine hz_ev 0 (by decide) ?_
        refine lv_icmp_gt (tgt := 1143) hx hb dL_law_24 (by decide) (fun _ => ?_) (fun z => absurd (by decide) z)
        refine lv_iconst (v := 1) hx hb dL_law_1143 (by decide) ?_
        refine va_forget (fun q hq => by have h9 := hS.2.2 q hq; rw [hAe] at h9; exact h9) ?_
        refine W.widen (k := 600000) (n := 7302250) (Nat.le_of_ble_eq_true rfl) (Nat.le_of_ble_eq_true rfl) ?_
        exact lw_ret hx hb hr hlocks dL_law_1144
    · refine lv_tableIn (off := 936) (tgt := 969) hx hb dL_law_33 (by decide) (by decide) (by decide) (by decide) ?_
      refine lv_aload_n hx hb dL_law_969 rfl (lv_at hl 2 rfl) ?_
      refine lv_aload_n hx hb dL_law_970 rfl (lv_at hl 3 rfl) ?_
      refine lv_iload_n hx hb dL_law_971 rfl (lv_at hl 0 rfl) ?_
      refine lv_iconst (v := 1) hx hb dL_law_972 (by decide) ?_
      refine lv_iadd hx hb dL_law_973 ?_
      refine hz_ev 1 (by decide) ?_
      refine va_sld hx hb hX hbl hbA hS (by unfold vp_in; decide) dL_law_974 ?_
      refine hz_ev (xs 1) rfl ?_
      refine va_calli (va_runV (As := [.int (xs 1)]) (rest := []) ⟨hx, hb, hml, hown, hT⟩ (c_X11_forgers l D cs kK kV g_3 r_4 (xs 1)) (cwV 1 hT (hz_gV q_587 q_588 q_589 q_174 q_590) rfl rfl rfl (by decide +kernel) ⟨(Nat.le_of_ble_eq_true rfl), (Nat.le_of_ble_eq_true rfl)⟩) ⟨hz_P.blind, va_recv hK hP (ci := 11) (q0 := 0) rfl rfl, hz_P.mk (hP.sub (ws' := [(g_3 0, .inr (11, [.ref (g_3 1), .ref (g_3 2), .ref (g_3 3), .ref (g_3 4), .int 0, .ref (g_3 5), .ref (g_3 6), .ref (g_3 7), .ref (g_3 8), .int 0, .int 0, .ref (g_3 9), .ref (g_3 10), .ref (g_3 11), .ref (g_3 12), .ref (g_3 13), .int 0])), (g_3 5, .inr (8, [.int 0, .int 0, .int 0, .int 0, .int 0, .int 12, .int 5, .int 1, .int 0, .ref (r_4 0), .ref (r_4 1), .ref (r_4 2), .ref (r_4 3), .ref (r_4 4), .ref (r_4 5), .ref (r_4 6), .ref (r_4 7), .ref (r_4 8)]))]) [0,5] rfl) hE hS⟩ rfl rfl hl.1 rfl (lv_room (Nat.le_of_ble_eq_true rfl)) dL_law_975 ⟨(Nat.le_of_ble_eq_true rfl), (Nat.le_of_ble_eq_true rfl)⟩) hS (fun _ _ h => h.elim) (fun _ h => h.elim) (fun r_59 u t H1 locs ht hvm hw hB hz1 hk1 hS => ?_)
      have hP := hz_keep hP hk1
      clear hk1 hB hz1
      generalize H1 = H at hP hS ⊢
      subst hw
      refine lv_aload_n hx hb dL_law_978 rfl (lv_at hl 1 rfl) ?_
      refine lv_aload_n hx hb dL_law_979 rfl (lv_at hl 3 rfl) ?_
      refine lv_iload_n hx hb dL_law_980 rfl (lv_at hl 0 rfl) ?_
      refine lv_iconst (v := 1) hx hb dL_law_981 (by decide) ?_
      refine lv_iadd hx hb dL_law_982 ?_
      refine hz_ev 1 (by decide) ?_
      refine va_sld hx hb hX hbl hbA hS (by unfold vp_in; decide) dL_law_983 ?_
      refine hz_ev (xs 1) rfl ?_
      refine va_calli (va_runV (As := [.int (xs 1)]) (rest := [.int (-1)]) ⟨hx, hb, hml, hown, hT⟩ (c_X12_forgers l D cs kK kV g_7 (xs 1)) (cwV 1 hT (hz_gV q_591 q_592 q_593 q_252 q_594) rfl rfl rfl (by decide +kernel) ⟨(Nat.le_of_ble_eq_true rfl), (Nat.le_of_ble_eq_true rfl)⟩) ⟨hz_P.blind, va_recv hK hP (ci := 12) (q0 := 17) rfl rfl, hz_P.mk (hP.sub (ws' := [(g_7 0, .inr (12, [.ref (g_7 1), .int 0, .int 0, .ref (g_7 2), .ref (g_7 3), .ref (g_7 4), .ref (g_7 5), .ref (g_7 6), .int 0, .int 0, .int 0, .int 0, .int 0, .int 0, .int 0, .ref (g_7 7), .int 0, .ref (g_7 8), .int 0, .ref (g_7 9), .ref (g_7 10), .int 0, .ref (g_7 11), .ref (g_7 12), .ref (g_7 13), .int 0, .int 0, .ref (g_7 14), .ref (g_7 15), .int 0, .int 0, .int 0, .ref (g_7 16), .long 0, .ref (g_7 17), .ref (g_7 18), .ref (g_7 19)])), (g_7 10, .inl (cs 0, 123, .inl (fun _ => 0)))]) [17,22] rfl) hE hS⟩ rfl rfl hl.1 rfl (lv_room (Nat.le_of_ble_eq_true rfl)) dL_law_984 ⟨(Nat.le_of_ble_eq_true rfl), (Nat.le_of_ble_eq_true rfl)⟩) hS (fun _ _ h => h.elim) (fun _ h => h.elim) (fun r_60 u t H1 locs ht hvm hw hB hz1 hk1 hS => ?_)
      have hP := hz_keep hP hk1
      clear hk1 hB hz1
      generalize H1 = H at hP hS ⊢
      subst hw
      refine lv_icmp_eq (tgt := 1137) hx hb dL_law_987 (by decide) (fun _ => ?_) (fun z => absurd (by decide) z)
      refine lv_iinc (v := 6) (lv' := [(3, .int 6), (2, .ref (g_7 0)), (1, .ref (g_3 0)), (0, .ref b)]) hx hb dL_law_1137 hl (k := 0) rfl (by decide) (by decide) rfl (fun ls hl => ?_)
      refine lv_goto (tgt := 18) hx hb dL_law_1140 (by decide) ?_
      refine lv_iload_n hx hb dL_law_18 rfl (lv_at hl 0 rfl) ?_
      refine lv_aload_n hx hb dL_law_19 rfl (lv_at hl 3 rfl) ?_
      refine va_slen hx hb hX hbl hbA hS dL_law_20 ?_
      refine hz_ev 6 (by decide) ?_
      refine lv_bipush (v := 6) hx hb dL_law_21 (by decide) ?_
      refine lv_isub hx hb dL_law_23 ?_
      refine hz_ev 0 (by decide) ?_
      refine lv_icmp_gt (tgt := 1143) hx hb dL_law_24 (by decide) (fun _ => ?_) (fun z => absurd (by decide) z)
      refine lv_iconst (v := 1) hx hb dL_law_1143 (by decide) ?_
      refine va_forget (fun q hq => by have h9 := hS.2.2 q hq; rw [hAe] at h9; exact h9) ?_
      refine W.widen (k := 600000) (n := 7302250) (Nat.le_of_ble_eq_true rfl) (Nat.le_of_ble_eq_true rfl) ?_
      exact lw_ret hx hb hr hlocks dL_law_1144
    · refine lv_tableIn (off := 959) (tgt := 992) hx hb dL_law_33 (by decide) (by decide) (by decide) (by decide) ?_
      refine lv_aload_n hx hb dL_law_992 rfl (lv_at hl 2 rfl) ?_
      refine lv_aload_n hx hb dL_law_993 rfl (lv_at hl 3 rfl) ?_
      refine lv_iload_n hx hb dL_law_994 rfl (lv_at hl 0 rfl) ?_
      refine lv_iconst (v := 1) hx hb dL_law_995 (by decide) ?_
      refine lv_iadd hx hb dL_law_996 ?_
      refine hz_ev 1 (by decide) ?_
      refine va_sld hx hb hX hbl hbA hS (by unfold vp_in; decide) dL_law_997 ?_
      refine hz_ev (xs 1) rfl ?_
      have hFc := va_free (wc := [(g_3 0, .inr (11, [.ref (g_3 1), .ref (g_3 2), .ref (g_3 3), .ref (g_3 4), .int 0, .ref (g_3 5), .ref (g_3 6), .ref (g_3 7), .ref (g_3 8), .int 0, .int 0, .ref (g_3 9), .ref (g_3 10), .ref (g_3 11), .ref (g_3 12), .ref (g_3 13), .int 0]))]) hD hS hA [0] rfl
      refine va_calli (va_runV (As := [.int (xs 1)]) (rest := []) ⟨hx, hb, hml, hown, hT⟩ (c_X11_seed l D cs kK kV g_3 r_4 (xs 1) H.size) (cwV 1 hT (hz_gV q_595 q_596 q_597 q_174 q_598) rfl rfl rfl (by decide +kernel) ⟨(Nat.le_of_ble_eq_true rfl), (Nat.le_of_ble_eq_true rfl)⟩) ⟨hz_C.blind, va_recv hK hP (ci := 11) (q0 := 0) rfl rfl, hz_C.mk (hP.sub (ws' := [(g_3 0, .inr (11, [.ref (g_3 1), .ref (g_3 2), .ref (g_3 3), .ref (g_3 4), .int 0, .ref (g_3 5), .ref (g_3 6), .ref (g_3 7), .ref (g_3 8), .int 0, .int 0, .ref (g_3 9), .ref (g_3 10), .ref (g_3 11), .ref (g_3 12), .ref (g_3 13), .int 0]))]) [0] rfl) (hD.sub (ws' := [(g_3 0, .inr (11, [.ref (g_3 1), .ref (g_3 2), .ref (g_3 3), .ref (g_3 4), .int 0, .ref (g_3 5), .ref (g_3 6), .ref (g_3 7), .ref (g_3 8), .int 0, .int 0, .ref (g_3 9), .ref (g_3 10), .ref (g_3 11), .ref (g_3 12), .ref (g_3 13), .int 0]))]) [0] (by decide) rfl) hE hS hFc⟩ rfl rfl hl.1 rfl (lv_room (Nat.le_of_ble_eq_true rfl)) dL_law_998 ⟨(Nat.le_of_ble_eq_true rfl), (Nat.le_of_ble_eq_true rfl)⟩) hS (fun q _ h => hFc q h) hFc (fun r_61 u t H1 locs ht hvm hw hB hz1 hk1 hS => ?_)
      obtain ⟨hP, hD⟩ := va_join (wr := [(g_7 0, .inr (12, [.ref (g_7 1), .int 0, .int 0, .ref (g_7 2), .ref (g_7 3), .ref (g_7 4), .ref (g_7 5), .ref (g_7 6), .int 0, .int 0, .int 0, .int 0, .int 0, .int 0, .int 0, .ref (g_7 7), .int 0, .ref (g_7 8), .int 0, .ref (g_7 9), .ref (g_7 10), .int 0, .ref (g_7 11), .ref (g_7 12), .ref (g_7 13), .int 0, .int 0, .ref (g_7 14), .ref (g_7 15), .int 0, .int 0, .int 0, .ref (g_7 16), .long 0, .ref (g_7 17), .ref (g_7 18), .ref (g_7 19)])), (g_7 1, .inl (cs 1, 400, .inl (fun _ => 0))), (g_7 3, .inl (cs 0, 7, .inl (fun _ => 0))), (g_7 5, .inl (cs 0, 6, .inl (fun _ => 0))), (g_7 6, .inl (cs 0, 86, .inl (fun _ => 0))), (g_7 10, .inl (cs 0, 123, .inl (fun _ => 0))), (g_7 17, .inl (cs 0, 492, .inl (fun _ => 0))), (g_7 18, .inl (cs 0, 4, .inl (fun _ => 0))), (g_7 19, .inl (cs 2, 4, .inl (fun _ => 0)))]) (w1 := []) hP hD [0] [17, 18, 19, 20, 21, 22, 23, 24, 25] rfl rfl (by decide) (by decide) hk1 hFc hz_P0 hz_D0
      generalize H1 = H at hP hS ⊢
      have hP : va_P D classes [(g_7 0, .inr (12, [.ref (g_7 1), .int 0, .int 0, .ref (g_7 2), .ref (g_7 3), .ref (g_7 4), .ref (g_7 5), .ref (g_7 6), .int 0, .int 0, .int 0, .int 0, .int 0, .int 0, .int 0, .ref (g_7 7), .int 0, .ref (g_7 8), .int 0, .ref (g_7 9), .ref (g_7 10), .int 0, .ref (g_7 11), .ref (g_7 12), .ref (g_7 13), .int 0, .int 0, .ref (g_7 14), .ref (g_7 15), .int 0, .int 0, .int 0, .ref (g_7 16), .long 0, .ref (g_7 17), .ref (g_7 18), .ref (g_7 19)])), (g_7 1, .inl (cs 1, 400, .inl (fun _ => 0))), (g_7 3, .inl (cs 0, 7, .inl (fun _ => 0))), (g_7 5, .inl (cs 0, 6, .inl (fun _ => 0))), (g_7 6, .inl (cs 0, 86, .inl (fun _ => 0))), (g_7 10, .inl (cs 0, 123, .inl (fun _ => 0))), (g_7 17, .inl (cs 0, 492, .inl (fun _ => 0))), (g_7 18, .inl (cs 0, 4, .inl (fun _ => 0))), (g_7 19, .inl (cs 2, 4, .inl (fun _ => 0)))] H := hP
      have hD : va_D A [(g_7 0, .inr (12, [.ref (g_7 1), .int 0, .int 0, .ref (g_7 2), .ref (g_7 3), .ref (g_7 4), .ref (g_7 5), .ref (g_7 6), .int 0, .int 0, .int 0, .int 0, .int 0, .int 0, .int 0, .ref (g_7 7), .int 0, .ref (g_7 8), .int 0, .ref (g_7 9), .ref (g_7 10), .int 0, .ref (g_7 11), .ref (g_7 12), .ref (g_7 13), .int 0, .int 0, .ref (g_7 14), .ref (g_7 15), .int 0, .int 0, .int 0, .ref (g_7 16), .long 0, .ref (g_7 17), .ref (g_7 18), .ref (g_7 19)])), (g_7 1, .inl (cs 1, 400, .inl (fun _ => 0))), (g_7 3, .inl (cs 0, 7, .inl (fun _ => 0))), (g_7 5, .inl (cs 0, 6, .inl (fun _ => 0))), (g_7 6, .inl (cs 0, 86, .inl (fun _ => 0))), (g_7 10, .inl (cs 0, 123, .inl (fun _ => 0))), (g_7 17, .inl (cs 0, 492, .inl (fun _ => 0))), (g_7 18, .inl (cs 0, 4, .inl (fun _ => 0))), (g_7 19, .inl (cs 2, 4, .inl (fun _ => 0)))] := hD
      clear hk1 hFc hz1
      subst hw
      refine lv_aload_n hx hb dL_law_1001 rfl (lv_at hl 1 rfl) ?_
      refine lv_aload_n hx hb dL_law_1002 rfl (lv_at hl 3 rfl) ?_
      refine lv_iload_n hx hb dL_law_1003 rfl (lv_at hl 0 rfl) ?_
      refine lv_iconst (v := 1) hx hb dL_law_1004 (by decide) ?_
      refine lv_iadd hx hb dL_law_1005 ?_
      refine hz_ev 1 (by decide) ?_
      refine va_sld hx hb hX hbl hbA hS (by unfold vp_in; decide) dL_law_1006 ?_
      refine hz_ev (xs 1) rfl ?_
      have hFc := va_free (wc := [(g_7 0, .inr (12, [.ref (g_7 1), .int 0, .int 0, .ref (g_7 2), .ref (g_7 3), .ref (g_7 4), .ref (g_7 5), .ref (g_7 6), .int 0, .int 0, .int 0, .int 0, .int 0, .int 0, .int 0, .ref (g_7 7), .int 0, .ref (g_7 8), .int 0, .ref (g_7 9), .ref (g_7 10), .int 0, .ref (g_7 11), .ref (g_7 12), .ref (g_7 13), .int 0, .int 0, .ref (g_7 14), .ref (g_7 15), .int 0, .int 0, .int 0, .ref (g_7 16), .long 0, .ref (g_7 17), .ref (g_7 18), .ref (g_7 19)]))]) hD hS hA [0] rfl
      refine va_calli (va_runV (As := [.int (xs 1)]) (rest := [.int (hz_seed (xs 1))]) ⟨hx, hb, hml, hown, hT⟩ (c_X12_seed l D cs kK kV g_7 (xs 1) H.size) (cwV 1 hT (hz_gV q_599 q_600 q_601 q_252 q_602) rfl rfl rfl (by decide +kernel) ⟨(Nat.le_of_ble_eq_true rfl), (Nat.le_of_ble_eq_true rfl)⟩) ⟨hz_C.blind, va_recv hK hP (ci := 12) (q0 := 0) rfl rfl, hz_C.mk (hP.sub (ws' := [(g_7 0, .inr (12, [.ref (g_7 1), .int 0, .int 0, .ref (g_7 2), .ref (g_7 3), .ref (g_7 4), .ref (g_7 5), .ref (g_7 6), .int 0, .int 0, .int 0, .int 0, .int 0, .int 0, .int 0, .ref (g_7 7), .int 0, .ref (g_7 8), .int 0, .ref (g_7 9), .ref (g_7 10), .int 0, .ref (g_7 11), .ref (g_7 12), .ref (g_7 13), .int 0, .int 0, .ref (g_7 14), .ref (g_7 15), .int 0, .int 0, .int 0, .ref (g_7 16), .long 0, .ref (g_7 17), .ref (g_7 18), .ref (g_7 19)]))]) [0] rfl) (hD.sub (ws' := [(g_7 0, .inr (12, [.ref (g_7 1), .int 0, .int 0, .ref (g_7 2), .ref (g_7 3), .ref (g_7 4), .ref (g_7 5), .ref (g_7 6), .int 0, .int 0, .int 0, .int 0, .int 0, .int 0, .int 0, .ref (g_7 7), .int 0, .ref (g_7 8), .int 0, .ref (g_7 9), .ref (g_7 10), .int 0, .ref (g_7 11), .ref (g_7 12), .ref (g_7 13), .int 0, .int 0, .ref (g_7 14), .ref (g_7 15), .int 0, .int 0, .int 0, .ref (g_7 16), .long 0, .ref (g_7 17), .ref (g_7 18), .ref (g_7 19)]))]) [0] (by decide) rfl) hE hS hFc⟩ rfl rfl hl.1 rfl (lv_room (Nat.le_of_ble_eq_true rfl)) dL_law_1007 ⟨(Nat.le_of_ble_eq_true rfl), (Nat.le_of_ble_eq_true rfl)⟩) hS (fun q _ h => hFc q h) hFc (fun r_62 u t H1 locs ht hvm hw hB hz1 hk1 hS => ?_)
      obtain ⟨hP, hD⟩ := va_join (wr := [(g_7 1, .inl (cs 1, 400, .inl (fun _ => 0))), (g_7 3, .inl (cs 0, 7, .inl (fun _ => 0))), (g_7 5, .inl (cs 0, 6, .inl (fun _ => 0))), (g_7 6, .inl (cs 0, 86, .inl (fun _ => 0))), (g_7 10, .inl (cs 0, 123, .inl (fun _ => 0))), (g_7 17, .inl (cs 0, 492, .inl (fun _ => 0))), (g_7 18, .inl (cs 0, 4, .inl (fun _ => 0))), (g_7 19, .inl (cs 2, 4, .inl (fun _ => 0)))]) (w1 := []) hP hD [0] [1, 2, 3, 4, 5, 6, 7, 8] rfl rfl (by decide) (by decide) hk1 hFc hz_P0 hz_D0
      generalize H1 = H at hP hS ⊢
      have hP : va_P D classes [(g_7 1, .inl (cs 1, 400, .inl (fun _ => 0))), (g_7 3, .inl (cs 0, 7, .inl (fun _ => 0))), (g_7 5, .inl (cs 0, 6, .inl (fun _ => 0))), (g_7 6, .inl (cs 0, 86, .inl (fun _ => 0))), (g_7 10, .inl (cs 0, 123, .inl (fun _ => 0))), (g_7 17, .inl (cs 0, 492, .inl (fun _ => 0))), (g_7 18, .inl (cs 0, 4, .inl (fun _ => 0))), (g_7 19, .inl (cs 2, 4, .inl (fun _ => 0)))] H := hP
      have hD : va_D A [(g_7 1, .inl (cs 1, 400, .inl (fun _ => 0))), (g_7 3, .inl (cs 0, 7, .inl (fun _ => 0))), (g_7 5, .inl (cs 0, 6, .inl (fun _ => 0))), (g_7 6, .inl (cs 0, 86, .inl (fun _ => 0))), (g_7 10, .inl (cs 0, 123, .inl (fun _ => 0))), (g_7 17, .inl (cs 0, 492, .inl (fun _ => 0))), (g_7 18, .inl (cs 0, 4, .inl (fun _ => 0))), (g_7 19, .inl (cs 2, 4, .inl (fun _ => 0)))] := hD
      clear hk1 hFc hz1
      subst hw
      refine lv_icmp_eq (tgt := 1137) hx hb dL_law_1010 (by decide) (fun _ => ?_) (fun z => absurd rfl z)
      refine lv_iinc (v := 6) (lv' := [(3, .int 6), (2, .ref (g_7 0)), (1, .ref (g_3 0)), (0, .ref b)]) hx hb dL_law_1137 hl (k := 0) rfl (by decide) (by decide) rfl (fun ls hl => ?_)
      refine lv_goto (tgt := 18) hx hb dL_law_1140 (by decide) ?_
      refine lv_iload_n hx hb dL_law_18 rfl (lv_at hl 0 rfl) ?_
      refine lv_aload_n hx hb dL_law_19 rfl (lv_at hl 3 rfl) ?_
      refine va_slen hx hb hX hbl hbA hS dL_law_20 ?_
      refine hz_ev 6 (by decide) ?_
      refine lv_bipush (v := 6) hx hb dL_law_21 (by decide) ?_
      refine lv_isub hx hb dL_law_23 ?_
      refine hz_ev 0 (by decide) ?_
      refine lv_icmp_gt (tgt := 1143) hx hb dL_law_24 (by decide) (fun _ => ?_) (fun z => absurd (by decide) z)
      refine lv_iconst (v := 1) hx hb dL_law_1143 (by decide) ?_
      refine va_forget (fun q hq => by have h9 := hS.2.2 q hq; rw [hAe] at h9; exact h9) ?_
      refine W.widen (k := 600000) (n := 7302250) (Nat.le_of_ble_eq_true rfl) (Nat.le_of_ble_eq_true rfl) ?_
      exact lw_ret hx hb hr hlocks dL_law_1144
    · refine lv_tableIn (off := 982) (tgt := 1015) hx hb dL_law_33 (by decide) (by decide) (by decide) (by decide) ?_
      refine lv_aload_n hx hb dL_law_1015 rfl (lv_at hl 2 rfl) ?_
      refine lv_aload_n hx hb dL_law_1016 rfl (lv_at hl 3 rfl) ?_
      refine lv_iload_n hx hb dL_law_1017 rfl (lv_at hl 0 rfl) ?_
      refine lv_iconst (v := 1) hx hb dL_law_1018 (by decide) ?_
      refine lv_iadd hx hb dL_law_1019 ?_
      refine hz_ev 1 (by decide) ?_
      refine va_sld hx hb hX hbl hbA hS (by unfold vp_in; decide) dL_law_1020 ?_
      refine hz_ev (xs 1) rfl ?_
      refine lv_aload_n hx hb dL_law_1021 rfl (lv_at hl 3 rfl) ?_
      refine lv_iload_n hx hb dL_law_1022 rfl (lv_at hl 0 rfl) ?_
      refine lv_iconst (v := 2) hx hb dL_law_1023 (by decide) ?_
      refine lv_iadd hx hb dL_law_1024 ?_
      refine hz_ev 2 (by decide) ?_
      refine va_sld hx hb hX hbl hbA hS (by unfold vp_in; decide) dL_law_1025 ?_
      refine hz_ev (xs 2) rfl ?_
      refine lv_aload_n hx hb dL_law_1026 rfl (lv_at hl 3 rfl) ?_
      refine lv_iload_n hx hb dL_law_1027 rfl (lv_at hl 0 rfl) ?_
      refine lv_iconst (v := 3) hx hb dL_law_1028 (by decide) ?_
      refine lv_iadd hx hb dL_law_1029 ?_
      refine hz_ev 3 (by decide) ?_
      refine va_sld hx hb hX hbl hbA hS (by unfold vp_in; decide) dL_law_1030 ?_
      refine hz_ev (xs 3) rfl ?_
      refine lv_aload_n hx hb dL_law_1031 rfl (lv_at hl 3 rfl) ?_
      refine lv_iload_n hx hb dL_law_1032 rfl (lv_at hl 0 rfl) ?_
      refine lv_iconst (v := 4) hx hb dL_law_1033 (by decide) ?_
      refine lv_iadd hx hb dL_law_1034 ?_
      refine hz_ev 4 (by decide) ?_
      refine va_sld hx hb hX hbl hbA hS (by unfold vp_in; decide) dL_law_1035 ?_
      refine hz_ev (xs 4) rfl ?_
      refine va_calli (va_runV (As := [.int (xs 1), .int (xs 2), .int (xs 3), .int (xs 4)]) (rest := []) ⟨hx, hb, hml, hown, hT⟩ (c_X11_fairs l D cs kK kV g_3 r_4 (xs 1) (xs 2) (xs 3) (xs 4)) (cwV 4 hT (hz_gV q_603 q_604 q_605 q_174 q_606) rfl rfl rfl (by decide +kernel) ⟨(Nat.le_of_ble_eq_true rfl), (Nat.le_of_ble_eq_true rfl)⟩) ⟨hz_P.blind, va_recv hK hP (ci := 11) (q0 := 0) rfl rfl, hz_P.mk (hP.sub (ws' := [(g_3 0, .inr (11, [.ref (g_3 1), .ref (g_3 2), .ref (g_3 3), .ref (g_3 4), .int 0, .ref (g_3 5), .ref (g_3 6), .ref (g_3 7), .ref (g_3 8), .int 0, .int 0, .ref (g_3 9), .ref (g_3 10), .ref (g_3 11), .ref (g_3 12), .ref (g_3 13), .int 0])), (g_3 5, .inr (8, [.int 0, .int 0, .int 0, .int 0, .int 0, .int 12, .int 5, .int 1, .int 0, .ref (r_4 0), .ref (r_4 1), .ref (r_4 2), .ref (r_4 3), .ref (r_4 4), .ref (r_4 5), .ref (r_4 6), .ref (r_4 7), .ref (r_4 8)]))]) [0,5] rfl) hE hS⟩ rfl rfl hl.1 rfl (lv_room (Nat.le_of_ble_eq_true rfl)) dL_law_1036 ⟨(Nat.le_of_ble_eq_true rfl), (Nat.le_of_ble_eq_true rfl)⟩) hS (fun _ _ h => h.elim) (fun _ h => h.elim) (fun r_63 u t H1 locs ht hvm hw hB hz1 hk1 hS => ?_)
      have hP := hz_keep hP hk1
      clear hk1 hB hz1
      generalize H1 = H at hP hS ⊢
      subst hw
      refine lv_aload_n hx hb dL_law_1039 rfl (lv_at hl 1 rfl) ?_
      refine lv_aload_n hx hb dL_law_1040 rfl (lv_at hl 3 rfl) ?_
      refine lv_iload_n hx hb dL_law_1041 rfl (lv_at hl 0 rfl) ?_
      refine lv_iconst (v := 1) hx hb dL_law_1042 (by decide) ?_
      refine lv_iadd hx hb dL_law_1043 ?_
      refine hz_ev 1 (by decide) ?_
      refine va_sld hx hb hX hbl hbA hS (by unfold vp_in; decide) dL_law_1044 ?_
      refine hz_ev (xs 1) rfl ?_
      refine lv_aload_n hx hb dL_law_1045 rfl (lv_at hl 3 rfl) ?_
      refine lv_iload_n hx hb dL_law_1046 rfl (lv_at hl 0 rfl) ?_
      refine lv_iconst (v := 2) hx hb dL_law_1047 (by decide) ?_
      refine lv_iadd hx hb dL_law_1048 ?_
      refine hz_ev 2 (by decide) ?_
      refine va_sld hx hb hX hbl hbA hS (by unfold vp_in; decide) dL_law_1049 ?_
      refine hz_ev (xs 2) rfl ?_
      refine lv_aload_n hx hb dL_law_1050 rfl (lv_at hl 3 rfl) ?_
      refine lv_iload_n hx hb dL_law_1051 rfl (lv_at hl 0 rfl) ?_
      refine lv_iconst (v := 3) hx hb dL_law_1052 (by decide) ?_
      refine lv_iadd hx hb dL_law_1053 ?_
      refine hz_ev 3 (by decide) ?_
      refine va_sld hx hb hX hbl hbA hS (by unfold vp_in; decide) dL_law_1054 ?_
      refine hz_ev (xs 3) rfl ?_
      refine lv_aload_n hx hb dL_law_1055 rfl (lv_at hl 3 rfl) ?_
      refine lv_iload_n hx hb dL_law_1056 rfl (lv_at hl 0 rfl) ?_
      refine lv_iconst (v := 4) hx hb dL_law_1057 (by decide) ?_
      refine lv_iadd hx hb dL_law_1058 ?_
      refine hz_ev 4 (by decide) ?_
      refine va_sld hx hb hX hbl hbA hS (by unfold vp_in; decide) dL_law_1059 ?_
      refine hz_ev (xs 4) rfl ?_
      refine va_calli (va_runV (As := [.int (xs 1), .int (xs 2), .int (xs 3), .int (xs 4)]) (rest := [.int (-1)]) ⟨hx, hb, hml, hown, hT⟩ (c_X12_fairs l D cs kK kV g_7 (xs 1) (xs 2) (xs 3) (xs 4)) (cwV 4 hT (hz_gV q_607 q_608 q_609 q_252 q_610) rfl rfl rfl (by decide +kernel) ⟨(Nat.le_of_ble_eq_true rfl), (Nat.le_of_ble_eq_true rfl)⟩) ⟨hz_P.blind, va_recv hK hP (ci := 12) (q0 := 17) rfl rfl, hz_P.mk (hP.sub (ws' := [(g_7 0, .inr (12, [.ref (g_7 1), .int 0, .int 0, .ref (g_7 2), .ref (g_7 3), .ref (g_7 4), .ref (g_7 5), .ref (g_7 6), .int 0, .int 0, .int 0, .int 0, .int 0, .int 0, .int 0, .ref (g_7 7), .int 0, .ref (g_7 8), .int 0, .ref (g_7 9), .ref (g_7 10), .int 0, .ref (g_7 11), .ref (g_7 12), .ref (g_7 13), .int 0, .int 0, .ref (g_7 14), .ref (g_7 15), .int 0, .int 0, .int 0, .ref (g_7 16), .long 0, .ref (g_7 17), .ref (g_7 18), .ref (g_7 19)])), (g_7 10, .inl (cs 0, 123, .inl (fun _ => 0)))]) [17,22] rfl) hE hS⟩ rfl rfl hl.1 rfl (lv_room (Nat.le_of_ble_eq_true rfl)) dL_law_1060 ⟨(Nat.le_of_ble_eq_true rfl), (Nat.le_of_ble_eq_true rfl)⟩) hS (fun _ _ h => h.elim) (fun _ h => h.elim) (fun r_64 u t H1 locs ht hvm hw hB hz1 hk1 hS => ?_)
      have hP := hz_keep hP hk1
      clear hk1 hB hz1
      generalize H1 = H at hP hS ⊢
      subst hw
      refine lv_icmp_eq (tgt := 1137) hx hb dL_law_1063 (by decide) (fun _ => ?_) (fun z => absurd (by decide) z)
      refine lv_iinc (v := 6) (lv' := [(3, .int 6), (2, .ref (g_7 0)), (1, .ref (g_3 0)), (0, .ref b)]) hx hb dL_law_1137 hl (k := 0) rfl (by decide) (by decide) rfl (fun ls hl => ?_)
      refine lv_goto (tgt := 18) hx hb dL_law_1140 (by decide) ?_
      refine lv_iload_n hx hb dL_law_18 rfl (lv_at hl 0 rfl) ?_
      refine lv_aload_n hx hb dL_law_19 rfl (lv_at hl 3 rfl) ?_
      refine va_slen hx hb hX hbl hbA hS dL_law_20 ?_
      refine hz_ev 6 (by decide) ?_
      refine lv_bipush (v := 6) hx hb dL_law_21 (by decide) ?_
      refine lv_isub hx hb dL_law_23 ?_
      refine hz_ev 0 (by decide) ?_
      refine lv_icmp_gt (tgt := 1143) hx hb dL_law_24 (by decide) (fun _ => ?_) (fun z => absurd (by decide) z)
      refine lv_iconst (v := 1) hx hb dL_law_1143 (by decide) ?_
      refine va_forget (fun q hq => by have h9 := hS.2.2 q hq; rw [hAe] at h9; exact h9) ?_
      refine W.widen (k := 600000) (n := 7302250) (Nat.le_of_ble_eq_true rfl) (Nat.le_of_ble_eq_true rfl) ?_
      exact lw_ret hx hb hr hlocks dL_law_1144
    · refine lv_tableIn (off := 1035) (tgt := 1068) hx hb dL_law_33 (by decide) (by decide) (by decide) (by decide) ?_
      refine lv_aload_n hx hb dL_law_1068 rfl (lv_at hl 2 rfl) ?_
      refine lv_aload_n hx hb dL_law_1069 rfl (lv_at hl 3 rfl) ?_
      refine lv_iload_n hx hb dL_law_1070 rfl (lv_at hl 0 rfl) ?_
      refine lv_iconst (v := 1) hx hb dL_law_1071 (by decide) ?_
      refine lv_iadd hx hb dL_law_1072 ?_
      refine hz_ev 1 (by decide) ?_
      refine va_sld hx hb hX hbl hbA hS (by unfold vp_in; decide) dL_law_1073 ?_
      refine hz_ev (xs 1) rfl ?_
      refine va_calli (va_runV (As := [.int (xs 1)]) (rest := []) ⟨hx, hb, hml, hown, hT⟩ (c_X11_count l D cs kK kV g_3 r_4 (xs 1)) (cwV 1 hT (hz_gV q_611 q_612 q_613 q_174 q_614) rfl rfl rfl (by decide +kernel) ⟨(Nat.le_of_ble_eq_true rfl), (Nat.le_of_ble_eq_true rfl)⟩) ⟨hz_P.blind, va_recv hK hP (ci := 11) (q0 := 0) rfl rfl, hz_P.mk (hP.sub (ws' := [(g_3 0, .inr (11, [.ref (g_3 1), .ref (g_3 2), .ref (g_3 3), .ref (g_3 4), .int 0, .ref (g_3 5), .ref (g_3 6), .ref (g_3 7), .ref (g_3 8), .int 0, .int 0, .ref (g_3 9), .ref (g_3 10), .ref (g_3 11), .ref (g_3 12), .ref (g_3 13), .int 0])), (g_3 5, .inr (8, [.int 0, .int 0, .int 0, .int 0, .int 0, .int 12, .int 5, .int 1, .int 0, .ref (r_4 0), .ref (r_4 1), .ref (r_4 2), .ref (r_4 3), .ref (r_4 4), .ref (r_4 5), .ref (r_4 6), .ref (r_4 7), .ref (r_4 8)])), (g_3 6, .inr (6, [.int 0, .ref (g_3 16), .ref (g_3 17), .ref (g_3 18), .ref (g_3 19), .ref (g_3 20)])), (g_3 20, .inl (cs 0, 8, .inl (fun _ => 0))), (g_3 9, .inr (9, [.int 0, .int 0, .int 0, .ref (g_3 21), .ref (g_3 22), .ref (g_3 23), .ref (g_3 24)])), (g_3 1, .inr (7, [.ref (g_3 14), .int 0, .int 0, .int 0]))]) [0,5,6,11,12,1] rfl) hE hS⟩ rfl rfl hl.1 rfl (lv_room (Nat.le_of_ble_eq_true rfl)) dL_law_1074 ⟨(Nat.le_of_ble_eq_true rfl), (Nat.le_of_ble_eq_true rfl)⟩) hS (fun _ _ h => h.elim) (fun _ h => h.elim) (fun r_65 u t H1 locs ht hvm hw hB hz1 hk1 hS => ?_)
      have hP := hz_keep hP hk1
      clear hk1 hB hz1
      generalize H1 = H at hP hS ⊢
      subst hw
      refine lv_aload_n hx hb dL_law_1077 rfl (lv_at hl 1 rfl) ?_
      refine lv_aload_n hx hb dL_law_1078 rfl (lv_at hl 3 rfl) ?_
      refine lv_iload_n hx hb dL_law_1079 rfl (lv_at hl 0 rfl) ?_
      refine lv_iconst (v := 1) hx hb dL_law_1080 (by decide) ?_
      refine lv_iadd hx hb dL_law_1081 ?_
      refine hz_ev 1 (by decide) ?_
      refine va_sld hx hb hX hbl hbA hS (by unfold vp_in; decide) dL_law_1082 ?_
      refine hz_ev (xs 1) rfl ?_
      refine va_calli (va_runV (As := [.int (xs 1)]) (rest := [.int (hz_count (xs 1))]) ⟨hx, hb, hml, hown, hT⟩ (c_X12_count l D cs kK kV g_7 (xs 1)) (cwV 1 hT (hz_gV q_615 q_616 q_617 q_252 q_618) rfl rfl rfl (by decide +kernel) ⟨(Nat.le_of_ble_eq_true rfl), (Nat.le_of_ble_eq_true rfl)⟩) ⟨hz_P.blind, va_recv hK hP (ci := 12) (q0 := 17) rfl rfl, hz_P.mk (hP.sub (ws' := [(g_7 0, .inr (12, [.ref (g_7 1), .int 0, .int 0, .ref (g_7 2), .ref (g_7 3), .ref (g_7 4), .ref (g_7 5), .ref (g_7 6), .int 0, .int 0, .int 0, .int 0, .int 0, .int 0, .int 0, .ref (g_7 7), .int 0, .ref (g_7 8), .int 0, .ref (g_7 9), .ref (g_7 10), .int 0, .ref (g_7 11), .ref (g_7 12), .ref (g_7 13), .int 0, .int 0, .ref (g_7 14), .ref (g_7 15), .int 0, .int 0, .int 0, .ref (g_7 16), .long 0, .ref (g_7 17), .ref (g_7 18), .ref (g_7 19)])), (g_7 10, .inl (cs 0, 123, .inl (fun _ => 0)))]) [17,22] rfl) hE hS⟩ rfl rfl hl.1 rfl (lv_room (Nat.le_of_ble_eq_true rfl)) dL_law_1083 ⟨(Nat.le_of_ble_eq_true rfl), (Nat.le_of_ble_eq_true rfl)⟩) hS (fun _ _ h => h.elim) (fun _ h => h.elim) (fun r_66 u t H1 locs ht hvm hw hB hz1 hk1 hS => ?_)
      have hP := hz_keep hP hk1
      clear hk1 hB hz1
      generalize H1 = H at hP hS ⊢
      subst hw
      refine lv_icmp_eq (tgt := 1137) hx hb dL_law_1086 (by decide) (fun _ => ?_) (fun z => absurd rfl z)
      refine lv_iinc (v := 6) (lv' := [(3, .int 6), (2, .ref (g_7 0)), (1, .ref (g_3 0)), (0, .ref b)]) hx hb dL_law_1137 hl (k := 0) rfl (by decide) (by decide) rfl (fun ls hl => ?_)
      refine lv_goto (tgt := 18) hx hb dL_law_1140 (by decide) ?_
      refine lv_iload_n hx hb dL_law_18 rfl (lv_at hl 0 rfl) ?_
      refine lv_aload_n hx hb dL_law_19 rfl (lv_at hl 3 rfl) ?_
      refine va_slen hx hb hX hbl hbA hS dL_law_20 ?_
      refine hz_ev 6 (by decide) ?_
      refine lv_bipush (v := 6) hx hb dL_law_21 (by decide) ?_
      refine lv_isub hx hb dL_law_23 ?_
      refine hz_ev 0 (by decide) ?_
      refine lv_icmp_gt (tgt := 1143) hx hb dL_law_24 (by decide) (fun _ => ?_) (fun z => absurd (by decide) z)
      refine lv_iconst (v := 1) hx hb dL_law_1143 (by decide) ?_
      refine va_forget (fun q hq => by have h9 := hS.2.2 q hq; rw [hAe] at h9; exact h9) ?_
      refine W.widen (k := 600000) (n := 7302250) (Nat.le_of_ble_eq_true rfl) (Nat.le_of_ble_eq_true rfl) ?_
      exact lw_ret hx hb hr hlocks dL_law_1144
    · refine lv_tableIn (off := 1058) (tgt := 1091) hx hb dL_law_33 (by decide) (by decide) (by decide) (by decide) ?_
      refine lv_aload_n hx hb dL_law_1091 rfl (lv_at hl 2 rfl) ?_
      refine lv_aload_n hx hb dL_law_1092 rfl (lv_at hl 3 rfl) ?_
      refine lv_iload_n hx hb dL_law_1093 rfl (lv_at hl 0 rfl) ?_
      refine lv_iconst (v := 1) hx hb dL_law_1094 (by decide) ?_
      refine lv_iadd hx hb dL_law_1095 ?_
      refine hz_ev 1 (by decide) ?_
      refine va_sld hx hb hX hbl hbA hS (by unfold vp_in; decide) dL_law_1096 ?_
      refine hz_ev (xs 1) rfl ?_
      have hFc := va_free (wc := [(g_3 0, .inr (11, [.ref (g_3 1), .ref (g_3 2), .ref (g_3 3), .ref (g_3 4), .int 0, .ref (g_3 5), .ref (g_3 6), .ref (g_3 7), .ref (g_3 8), .int 0, .int 0, .ref (g_3 9), .ref (g_3 10), .ref (g_3 11), .ref (g_3 12), .ref (g_3 13), .int 0])), (g_3 6, .inr (6, [.int 0, .ref (g_3 16), .ref (g_3 17), .ref (g_3 18), .ref (g_3 19), .ref (g_3 20)])), (g_3 16, .inl (cs 0, 4, .inl (fun _ => 0))), (g_3 17, .inl (cs 0, 4, .inl (fun _ => 0))), (g_3 18, .inl (cs 0, 4, .inl (fun _ => 0))), (g_3 19, .inl (cs 0, 4, .inl (fun _ => 0))), (g_3 20, .inl (cs 0, 8, .inl (fun _ => 0))), (g_3 9, .inr (9, [.int 0, .int 0, .int 0, .ref (g_3 21), .ref (g_3 22), .ref (g_3 23), .ref (g_3 24)])), (g_3 22, .inl (cs 0, 12, .inl (fun _ => 0))), (g_3 23, .inl (cs 0, 12, .inl (fun _ => 0))), (g_3 24, .inl (cs 2, 12, .inl (fun _ => 0))), (g_3 10, .inl (cs 6, 4, .inr (.inr (.inr (.inr (fun _ => none))))))]) hD hS hA [0,6,7,8,9,10,11,12,13,14,15,16] rfl
      refine va_calli (va_runV (As := [.int (xs 1)]) (rest := []) ⟨hx, hb, hml, hown, hT⟩ (c_X11_image l D cs kK kV g_3 r_4 (xs 1) H.size) (cwV 1 hT (hz_gV q_619 q_620 q_621 q_174 q_622) rfl rfl rfl (by decide +kernel) ⟨(Nat.le_of_ble_eq_true rfl), (Nat.le_of_ble_eq_true rfl)⟩) ⟨hz_C.blind, va_recv hK hP (ci := 11) (q0 := 0) rfl rfl, hz_C.mk (hP.sub (ws' := [(g_3 0, .inr (11, [.ref (g_3 1), .ref (g_3 2), .ref (g_3 3), .ref (g_3 4), .int 0, .ref (g_3 5), .ref (g_3 6), .ref (g_3 7), .ref (g_3 8), .int 0, .int 0, .ref (g_3 9), .ref (g_3 10), .ref (g_3 11), .ref (g_3 12), .ref (g_3 13), .int 0])), (g_3 6, .inr (6, [.int 0, .ref (g_3 16), .ref (g_3 17), .ref (g_3 18), .ref (g_3 19), .ref (g_3 20)])), (g_3 16, .inl (cs 0, 4, .inl (fun _ => 0))), (g_3 17, .inl (cs 0, 4, .inl (fun _ => 0))), (g_3 18, .inl (cs 0, 4, .inl (fun _ => 0))), (g_3 19, .inl (cs 0, 4, .inl (fun _ => 0))), (g_3 20, .inl (cs 0, 8, .inl (fun _ => 0))), (g_3 9, .inr (9, [.int 0, .int 0, .int 0, .ref (g_3 21), .ref (g_3 22), .ref (g_3 23), .ref (g_3 24)])), (g_3 22, .inl (cs 0, 12, .inl (fun _ => 0))), (g_3 23, .inl (cs 0, 12, .inl (fun _ => 0))), (g_3 24, .inl (cs 2, 12, .inl (fun _ => 0))), (g_3 10, .inl (cs 6, 4, .inr (.inr (.inr (.inr (fun _ => none))))))]) [0,6,7,8,9,10,11,12,13,14,15,16] rfl) (hD.sub (ws' := [(g_3 0, .inr (11, [.ref (g_3 1), .ref (g_3 2), .ref (g_3 3), .ref (g_3 4), .int 0, .ref (g_3 5), .ref (g_3 6), .ref (g_3 7), .ref (g_3 8), .int 0, .int 0, .ref (g_3 9), .ref (g_3 10), .ref (g_3 11), .ref (g_3 12), .ref (g_3 13), .int 0])), (g_3 6, .inr (6, [.int 0, .ref (g_3 16), .ref (g_3 17), .ref (g_3 18), .ref (g_3 19), .ref (g_3 20)])), (g_3 16, .inl (cs 0, 4, .inl (fun _ => 0))), (g_3 17, .inl (cs 0, 4, .inl (fun _ => 0))), (g_3 18, .inl (cs 0, 4, .inl (fun _ => 0))), (g_3 19, .inl (cs 0, 4, .inl (fun _ => 0))), (g_3 20, .inl (cs 0, 8, .inl (fun _ => 0))), (g_3 9, .inr (9, [.int 0, .int 0, .int 0, .ref (g_3 21), .ref (g_3 22), .ref (g_3 23), .ref (g_3 24)])), (g_3 22, .inl (cs 0, 12, .inl (fun _ => 0))), (g_3 23, .inl (cs 0, 12, .inl (fun _ => 0))), (g_3 24, .inl (cs 2, 12, .inl (fun _ => 0))), (g_3 10, .inl (cs 6, 4, .inr (.inr (.inr (.inr (fun _ => none))))))]) [0,6,7,8,9,10,11,12,13,14,15,16] (by decide) rfl) hE hS hFc⟩ rfl rfl hl.1 rfl (lv_room (Nat.le_of_ble_eq_true rfl)) dL_law_1097 ⟨(Nat.le_of_ble_eq_true rfl), (Nat.le_of_ble_eq_true rfl)⟩) hS (fun q _ h => hFc q h) hFc (fun r_67 u t H1 locs ht hvm hw hB hz1 hk1 hS => ?_)
      obtain ⟨hP, hD⟩ := va_join (wr := [(g_7 0, .inr (12, [.ref (g_7 1), .int 0, .int 0, .ref (g_7 2), .ref (g_7 3), .ref (g_7 4), .ref (g_7 5), .ref (g_7 6), .int 0, .int 0, .int 0, .int 0, .int 0, .int 0, .int 0, .ref (g_7 7), .int 0, .ref (g_7 8), .int 0, .ref (g_7 9), .ref (g_7 10), .int 0, .ref (g_7 11), .ref (g_7 12), .ref (g_7 13), .int 0, .int 0, .ref (g_7 14), .ref (g_7 15), .int 0, .int 0, .int 0, .ref (g_7 16), .long 0, .ref (g_7 17), .ref (g_7 18), .ref (g_7 19)])), (g_7 1, .inl (cs 1, 400, .inl (fun _ => 0))), (g_7 3, .inl (cs 0, 7, .inl (fun _ => 0))), (g_7 5, .inl (cs 0, 6, .inl (fun _ => 0))), (g_7 6, .inl (cs 0, 86, .inl (fun _ => 0))), (g_7 10, .inl (cs 0, 123, .inl (fun _ => 0))), (g_7 17, .inl (cs 0, 492, .inl (fun _ => 0))), (g_7 18, .inl (cs 0, 4, .inl (fun _ => 0))), (g_7 19, .inl (cs 2, 4, .inl (fun _ => 0)))]) (w1 := []) hP hD [0, 6, 7, 8, 9, 10, 11, 12, 13, 14, 15, 16] [17, 18, 19, 20, 21, 22, 23, 24, 25] rfl rfl (by decide) (by decide) hk1 hFc hz_P0 hz_D0
      generalize H1 = H at hP hS ⊢
      have hP : va_P D classes [(g_7 0, .inr (12, [.ref (g_7 1), .int 0, .int 0, .ref (g_7 2), .ref (g_7 3), .ref (g_7 4), .ref (g_7 5), .ref (g_7 6), .int 0, .int 0, .int 0, .int 0, .int 0, .int 0, .int 0, .ref (g_7 7), .int 0, .ref (g_7 8), .int 0, .ref (g_7 9), .ref (g_7 10), .int 0, .ref (g_7 11), .ref (g_7 12), .ref (g_7 13), .int 0, .int 0, .ref (g_7 14), .ref (g_7 15), .int 0, .int 0, .int 0, .ref (g_7 16), .long 0, .ref (g_7 17), .ref (g_7 18), .ref (g_7 19)])), (g_7 1, .inl (cs 1, 400, .inl (fun _ => 0))), (g_7 3, .inl (cs 0, 7, .inl (fun _ => 0))), (g_7 5, .inl (cs 0, 6, .inl (fun _ => 0))), (g_7 6, .inl (cs 0, 86, .inl (fun _ => 0))), (g_7 10, .inl (cs 0, 123, .inl (fun _ => 0))), (g_7 17, .inl (cs 0, 492, .inl (fun _ => 0))), (g_7 18, .inl (cs 0, 4, .inl (fun _ => 0))), (g_7 19, .inl (cs 2, 4, .inl (fun _ => 0)))] H := hP
      have hD : va_D A [(g_7 0, .inr (12, [.ref (g_7 1), .int 0, .int 0, .ref (g_7 2), .ref (g_7 3), .ref (g_7 4), .ref (g_7 5), .ref (g_7 6), .int 0, .int 0, .int 0, .int 0, .int 0, .int 0, .int 0, .ref (g_7 7), .int 0, .ref (g_7 8), .int 0, .ref (g_7 9), .ref (g_7 10), .int 0, .ref (g_7 11), .ref (g_7 12), .ref (g_7 13), .int 0, .int 0, .ref (g_7 14), .ref (g_7 15), .int 0, .int 0, .int 0, .ref (g_7 16), .long 0, .ref (g_7 17), .ref (g_7 18), .ref (g_7 19)])), (g_7 1, .inl (cs 1, 400, .inl (fun _ => 0))), (g_7 3, .inl (cs 0, 7, .inl (fun _ => 0))), (g_7 5, .inl (cs 0, 6, .inl (fun _ => 0))), (g_7 6, .inl (cs 0, 86, .inl (fun _ => 0))), (g_7 10, .inl (cs 0, 123, .inl (fun _ => 0))), (g_7 17, .inl (cs 0, 492, .inl (fun _ => 0))), (g_7 18, .inl (cs 0, 4, .inl (fun _ => 0))), (g_7 19, .inl (cs 2, 4, .inl (fun _ => 0)))] := hD
      clear hk1 hFc hz1
      refine W.widen (k := 198) (n := 28810) (Nat.le_of_ble_eq_true rfl) (Nat.le_of_ble_eq_true rfl) ?_
      subst hw
      refine lv_aload_n hx hb dL_law_1100 rfl (lv_at hl 1 rfl) ?_
      refine lv_aload_n hx hb dL_law_1101 rfl (lv_at hl 3 rfl) ?_
      refine lv_iload_n hx hb dL_law_1102 rfl (lv_at hl 0 rfl) ?_
      refine lv_iconst (v := 1) hx hb dL_law_1103 (by decide) ?_
      refine lv_iadd hx hb dL_law_1104 ?_
      refine hz_ev 1 (by decide) ?_
      refine va_sld hx hb hX hbl hbA hS (by unfold vp_in; decide) dL_law_1105 ?_
      refine hz_ev (xs 1) rfl ?_
      have hFc := va_free (wc := [(g_7 0, .inr (12, [.ref (g_7 1), .int 0, .int 0, .ref (g_7 2), .ref (g_7 3), .ref (g_7 4), .ref (g_7 5), .ref (g_7 6), .int 0, .int 0, .int 0, .int 0, .int 0, .int 0, .int 0, .ref (g_7 7), .int 0, .ref (g_7 8), .int 0, .ref (g_7 9), .ref (g_7 10), .int 0, .ref (g_7 11), .ref (g_7 12), .ref (g_7 13), .int 0, .int 0, .ref (g_7 14), .ref (g_7 15), .int 0, .int 0, .int 0, .ref (g_7 16), .long 0, .ref (g_7 17), .ref (g_7 18), .ref (g_7 19)])), (g_7 10, .inl (cs 0, 123, .inl (fun _ => 0))), (g_7 17, .inl (cs 0, 492, .inl (fun _ => 0))), (g_7 18, .inl (cs 0, 4, .inl (fun _ => 0))), (g_7 19, .inl (cs 2, 4, .inl (fun _ => 0)))]) hD hS hA [0,5,6,7,8] rfl
      refine va_calli (va_runV (As := [.int (xs 1)]) (rest := [.int (hz_image (xs 1))]) ⟨hx, hb, hml, hown, hT⟩ (c_X12_image l D cs kK kV g_7 (xs 1) H.size) (cwV 1 hT (hz_gV q_623 q_624 q_625 q_252 q_626) rfl rfl rfl (by decide +kernel) ⟨(Nat.le_of_ble_eq_true rfl), (Nat.le_of_ble_eq_true rfl)⟩) ⟨hz_C.blind, va_recv hK hP (ci := 12) (q0 := 0) rfl rfl, hz_C.mk (hP.sub (ws' := [(g_7 0, .inr (12, [.ref (g_7 1), .int 0, .int 0, .ref (g_7 2), .ref (g_7 3), .ref (g_7 4), .ref (g_7 5), .ref (g_7 6), .int 0, .int 0, .int 0, .int 0, .int 0, .int 0, .int 0, .ref (g_7 7), .int 0, .ref (g_7 8), .int 0, .ref (g_7 9), .ref (g_7 10), .int 0, .ref (g_7 11), .ref (g_7 12), .ref (g_7 13), .int 0, .int 0, .ref (g_7 14), .ref (g_7 15), .int 0, .int 0, .int 0, .ref (g_7 16), .long 0, .ref (g_7 17), .ref (g_7 18), .ref (g_7 19)])), (g_7 10, .inl (cs 0, 123, .inl (fun _ => 0))), (g_7 17, .inl (cs 0, 492, .inl (fun _ => 0))), (g_7 18, .inl (cs 0, 4, .inl (fun _ => 0))), (g_7 19, .inl (cs 2, 4, .inl (fun _ => 0)))]) [0,5,6,7,8] rfl) (hD.sub (ws' := [(g_7 0, .inr (12, [.ref (g_7 1), .int 0, .int 0, .ref (g_7 2), .ref (g_7 3), .ref (g_7 4), .ref (g_7 5), .ref (g_7 6), .int 0, .int 0, .int 0, .int 0, .int 0, .int 0, .int 0, .ref (g_7 7), .int 0, .ref (g_7 8), .int 0, .ref (g_7 9), .ref (g_7 10), .int 0, .ref (g_7 11), .ref (g_7 12), .ref (g_7 13), .int 0, .int 0, .ref (g_7 14), .ref (g_7 15), .int 0, .int 0, .int 0, .ref (g_7 16), .long 0, .ref (g_7 17), .ref (g_7 18), .ref (g_7 19)])), (g_7 10, .inl (cs 0, 123, .inl (fun _ => 0))), (g_7 17, .inl (cs 0, 492, .inl (fun _ => 0))), (g_7 18, .inl (cs 0, 4, .inl (fun _ => 0))), (g_7 19, .inl (cs 2, 4, .inl (fun _ => 0)))]) [0,5,6,7,8] (by decide) rfl) hE hS hFc⟩ rfl rfl hl.1 rfl (lv_room (Nat.le_of_ble_eq_true rfl)) dL_law_1106 ⟨(Nat.le_of_ble_eq_true rfl), (Nat.le_of_ble_eq_true rfl)⟩) hS (fun q _ h => hFc q h) hFc (fun r_68 u t H1 locs ht hvm hw hB hz1 hk1 hS => ?_)
      obtain ⟨hP, hD⟩ := va_join (wr := [(g_7 1, .inl (cs 1, 400, .inl (fun _ => 0))), (g_7 3, .inl (cs 0, 7, .inl (fun _ => 0))), (g_7 5, .inl (cs 0, 6, .inl (fun _ => 0))), (g_7 6, .inl (cs 0, 86, .inl (fun _ => 0)))]) (w1 := []) hP hD [0, 5, 6, 7, 8] [1, 2, 3, 4] rfl rfl (by decide) (by decide) hk1 hFc hz_P0 hz_D0
      generalize H1 = H at hP hS ⊢
      have hP : va_P D classes [(g_7 1, .inl (cs 1, 400, .inl (fun _ => 0))), (g_7 3, .inl (cs 0, 7, .inl (fun _ => 0))), (g_7 5, .inl (cs 0, 6, .inl (fun _ => 0))), (g_7 6, .inl (cs 0, 86, .inl (fun _ => 0)))] H := hP
      have hD : va_D A [(g_7 1, .inl (cs 1, 400, .inl (fun _ => 0))), (g_7 3, .inl (cs 0, 7, .inl (fun _ => 0))), (g_7 5, .inl (cs 0, 6, .inl (fun _ => 0))), (g_7 6, .inl (cs 0, 86, .inl (fun _ => 0)))] := hD
      clear hk1 hFc hz1
      subst hw
      refine lv_icmp_eq (tgt := 1137) hx hb dL_law_1109 (by decide) (fun _ => ?_) (fun z => absurd rfl z)
      refine lv_iinc (v := 6) (lv' := [(3, .int 6), (2, .ref (g_7 0)), (1, .ref (g_3 0)), (0, .ref b)]) hx hb dL_law_1137 hl (k := 0) rfl (by decide) (by decide) rfl (fun ls hl => ?_)
      refine lv_goto (tgt := 18) hx hb dL_law_1140 (by decide) ?_
      refine lv_iload_n hx hb dL_law_18 rfl (lv_at hl 0 rfl) ?_
      refine lv_aload_n hx hb dL_law_19 rfl (lv_at hl 3 rfl) ?_
      refine va_slen hx hb hX hbl hbA hS dL_law_20 ?_
      refine hz_ev 6 (by decide) ?_
      refine lv_bipush (v := 6) hx hb dL_law_21 (by decide) ?_
      refine lv_isub hx hb dL_law_23 ?_
      refine hz_ev 0 (by decide) ?_
      refine lv_icmp_gt (tgt := 1143) hx hb dL_law_24 (by decide) (fun _ => ?_) (fun z => absurd (by decide) z)
      refine lv_iconst (v := 1) hx hb dL_law_1143 (by decide) ?_
      refine va_forget (fun q hq => by have h9 := hS.2.2 q hq; rw [hAe] at h9; exact h9) ?_
      refine W.widen (k := 600000) (n := 7302250) (Nat.le_of_ble_eq_true rfl) (Nat.le_of_ble_eq_true rfl) ?_
      exact lw_ret hx hb hr hlocks dL_law_1144
    · refine lv_tableIn (off := 1081) (tgt := 1114) hx hb dL_law_33 (by decide) (by decide) (by decide) (by decide) ?_
      refine lv_aload_n hx hb dL_law_1114 rfl (lv_at hl 2 rfl) ?_
      refine lv_aload_n hx hb dL_law_1115 rfl (lv_at hl 3 rfl) ?_
      refine lv_iload_n hx hb dL_law_1116 rfl (lv_at hl 0 rfl) ?_
      refine lv_iconst (v := 1) hx hb dL_law_1117 (by decide) ?_
      refine lv_iadd hx hb dL_law_1118 ?_
      refine hz_ev 1 (by decide) ?_
      refine va_sld hx hb hX hbl hbA hS (by unfold vp_in; decide) dL_law_1119 ?_
      refine hz_ev (xs 1) rfl ?_
      refine va_calli (va_runV (As := [.int (xs 1)]) (rest := []) ⟨hx, hb, hml, hown, hT⟩ (c_X11_back l D cs kK kV g_3 r_4 (xs 1)) (cwV 1 hT (hz_gV q_627 q_628 q_629 q_174 q_630) rfl rfl rfl (by decide +kernel) ⟨(Nat.le_of_ble_eq_true rfl), (Nat.le_of_ble_eq_true rfl)⟩) ⟨hz_P.blind, va_recv hK hP (ci := 11) (q0 := 0) rfl rfl, hz_P.mk (hP.sub (ws' := [(g_3 0, .inr (11, [.ref (g_3 1), .ref (g_3 2), .ref (g_3 3), .ref (g_3 4), .int 0, .ref (g_3 5), .ref (g_3 6), .ref (g_3 7), .ref (g_3 8), .int 0, .int 0, .ref (g_3 9), .ref (g_3 10), .ref (g_3 11), .ref (g_3 12), .ref (g_3 13), .int 0])), (g_3 10, .inl (cs 6, 4, .inr (.inr (.inr (.inr (fun _ => none))))))]) [0,16] rfl) hE hS⟩ rfl rfl hl.1 rfl (lv_room (Nat.le_of_ble_eq_true rfl)) dL_law_1120 ⟨(Nat.le_of_ble_eq_true rfl), (Nat.le_of_ble_eq_true rfl)⟩) hS (fun _ _ h => h.elim) (fun _ h => h.elim) (fun r_69 u t H1 locs ht hvm hw hB hz1 hk1 hS => ?_)
      have hP := hz_keep hP hk1
      clear hk1 hB hz1
      generalize H1 = H at hP hS ⊢
      subst hw
      refine lv_aload_n hx hb dL_law_1123 rfl (lv_at hl 1 rfl) ?_
      refine lv_aload_n hx hb dL_law_1124 rfl (lv_at hl 3 rfl) ?_
      refine lv_iload_n hx hb dL_law_1125 rfl (lv_at hl 0 rfl) ?_
      refine lv_iconst (v := 1) hx hb dL_law_1126 (by decide) ?_
      refine lv_iadd hx hb dL_law_1127 ?_
      refine hz_ev 1 (by decide) ?_
      refine va_sld hx hb hX hbl hbA hS (by unfold vp_in; decide) dL_law_1128 ?_
      refine hz_ev (xs 1) rfl ?_
      refine va_calli (va_runV (As := [.int (xs 1)]) (rest := [.int (-1)]) ⟨hx, hb, hml, hown, hT⟩ (c_X12_back l D cs kK kV g_7 (xs 1)) (cwV 1 hT (hz_gV q_631 q_632 q_633 q_252 q_634) rfl rfl rfl (by decide +kernel) ⟨(Nat.le_of_ble_eq_true rfl), (Nat.le_of_ble_eq_true rfl)⟩) ⟨hz_P.blind, va_recv hK hP (ci := 12) (q0 := 17) rfl rfl, hz_P.mk (hP.sub (ws' := [(g_7 0, .inr (12, [.ref (g_7 1), .int 0, .int 0, .ref (g_7 2), .ref (g_7 3), .ref (g_7 4), .ref (g_7 5), .ref (g_7 6), .int 0, .int 0, .int 0, .int 0, .int 0, .int 0, .int 0, .ref (g_7 7), .int 0, .ref (g_7 8), .int 0, .ref (g_7 9), .ref (g_7 10), .int 0, .ref (g_7 11), .ref (g_7 12), .ref (g_7 13), .int 0, .int 0, .ref (g_7 14), .ref (g_7 15), .int 0, .int 0, .int 0, .ref (g_7 16), .long 0, .ref (g_7 17), .ref (g_7 18), .ref (g_7 19)])), (g_7 19, .inl (cs 2, 4, .inl (fun _ => 0)))]) [17,25] rfl) hE hS⟩ rfl rfl hl.1 rfl (lv_room (Nat.le_of_ble_eq_true rfl)) dL_law_1129 ⟨(Nat.le_of_ble_eq_true rfl), (Nat.le_of_ble_eq_true rfl)⟩) hS (fun _ _ h => h.elim) (fun _ h => h.elim) (fun r_70 u t H1 locs ht hvm hw hB hz1 hk1 hS => ?_)
      have hP := hz_keep hP hk1
      clear hk1 hB hz1
      generalize H1 = H at hP hS ⊢
      subst hw
      refine lv_icmp_eq (tgt := 1137) hx hb dL_law_1132 (by decide) (fun _ => ?_) (fun z => absurd (by decide) z)
      refine lv_iinc (v := 6) (lv' := [(3, .int 6), (2, .ref (g_7 0)), (1, .ref (g_3 0)), (0, .ref b)]) hx hb dL_law_1137 hl (k := 0) rfl (by decide) (by decide) rfl (fun ls hl => ?_)
      refine lv_goto (tgt := 18) hx hb dL_law_1140 (by decide) ?_
      refine lv_iload_n hx hb dL_law_18 rfl (lv_at hl 0 rfl) ?_
      refine lv_aload_n hx hb dL_law_19 rfl (lv_at hl 3 rfl) ?_
      refine va_slen hx hb hX hbl hbA hS dL_law_20 ?_
      refine hz_ev 6 (by decide) ?_
      refine lv_bipush (v := 6) hx hb dL_law_21 (by decide) ?_
      refine lv_isub hx hb dL_law_23 ?_
      refine hz_ev 0 (by decide) ?_
      refine lv_icmp_gt (tgt := 1143) hx hb dL_law_24 (by decide) (fun _ => ?_) (fun z => absurd (by decide) z)
      refine lv_iconst (v := 1) hx hb dL_law_1143 (by decide) ?_
      refine va_forget (fun q hq => by have h9 := hS.2.2 q hq; rw [hAe] at h9; exact h9) ?_
      refine W.widen (k := 600000) (n := 7302250) (Nat.le_of_ble_eq_true rfl) (Nat.le_of_ble_eq_true rfl) ?_
      exact lw_ret hx hb hr hlocks dL_law_1144
set_option maxHeartbeats 40000000 in
set_option maxRecDepth 100000 in
theorem hz_law5 {p : Program} {e : Env} {s : State} {m : MethodId} {below : List Frame} {meth : Method} {c : Code} (l : Launch) {b L : Nat} {xs : Nat → Int32} (hlt : Int32.ofNat L - 6 < 0) (C0 : lw_At p s m meth c b L xs) : W p l e room_1 s m #[Value.ref b] below meth c s.heap [] 0 0 (lw_Z below #[Value.ref b] s) (entryFrame m ([Value.ref b] : List Value).toArray 4) := by
  obtain ⟨hx, hb, hr, hml, hown, hts, hX, hbl, hlocks, hgv⟩ := C0
  have hT : ∀ w ∈ TB, w.before _ s = true := fun w h => hts w (TB_ok w h).1
  obtain ⟨A, hAe⟩ : ∃ A : Nat → Prop, A = fun q : Nat => s.heap.size ≤ q := ⟨_, rfl⟩
  have hA : ∀ q : Nat, s.heap.size ≤ q → A q := fun q h => by rw [hAe]; exact h
  have hAn : ∀ q : Nat, q < s.heap.size → ¬ A q := fun q h z => by rw [hAe] at z; exact absurd z (Nat.not_le.mpr h)
  obtain ⟨D, cs, kK, kV, hE⟩ := hz_start hts hgv hAn
  have hbA : ¬ A b := hAn b hbl
  have hb : c.code = cL_law := hb
  have hown : s.vm.findClass RL = some m.cls := hown
  have hK := hE.1
  have hP : va_P D classes [] s.heap := hz_P0
  have hD : va_D A [] := hz_D0
  have hS : va_S A s.heap s.heap [] := va_S.rf
  have hl := lv_entry ([.ref b]) (n := 4) (Nat.le_of_ble_eq_true rfl)
  rw [lg_entry_eq]
  generalize (lg_sl ([.ref b]) ++ List.replicate (4 - (lg_sl ([.ref b])).length) Slot.unset).toArray = ls at hl ⊢
  have hl : lv_has ls 4 [(0, .ref b)] := hl
  obtain ⟨H, eH⟩ : ∃ z, z = s.heap := ⟨_, rfl⟩
  have hP : va_P D classes [] H := hz_P0
  have hS : va_S A s.heap H [] := by rw [eH]; exact hS
  rw [← eH]
  clear eH hAn
  refine va_new (D := D) (ci := 11) (fs := [.null, .null, .null, .null, .int 0, .null, .null, .null, .null, .int 0, .int 0, .null, .null, .null, .null, .null, .int 0]) (C := RX11) (T := TX11) (N := 17) hx hb hT i_X11 tyX11 tyX11_ok hown (hT _ q_395) (hT _ q_393) (hT _ q_174) hK hP hD hS hA rfl df_X11 (Nat.le_of_ble_eq_true rfl) (Nat.le_of_ble_eq_true rfl) dL_law_0 (fun n_1 H hP hD hS => ?_)
  have hP : va_P D classes [(n_1, .inr (11, [.null, .null, .null, .null, .int 0, .null, .null, .null, .null, .int 0, .int 0, .null, .null, .null, .null, .null, .int 0]))] H := hP
  have hD : va_D A [(n_1, .inr (11, [.null, .null, .null, .null, .int 0, .null, .null, .null, .null, .int 0, .int 0, .null, .null, .null, .null, .null, .int 0]))] := hD
  refine W.widen (k := 1) (n := 17) (Nat.le_of_ble_eq_true rfl) (Nat.le_of_ble_eq_true rfl) ?_
  refine lv_dup hx hb dL_law_3 rfl ?_
  have hFc := va_free (wc := [(n_1, .inr (11, [.null, .null, .null, .null, .int 0, .null, .null, .null, .null, .int 0, .int 0, .null, .null, .null, .null, .null, .int 0]))]) hD hS hA [0] rfl
  refine va_callv (va_runI (As := []) (rest := [.ref n_1]) ⟨hx, hb, hml, hown, hT⟩ (c_X11_init l D cs kK kV n_1 H.size) (cwI 0 hT (hz_gw q_396) rfl rfl rfl (hT _ q_174) (hT _ q_397) (hT _ q_398) rfl (by decide +kernel) ⟨(Nat.le_of_ble_eq_true rfl), (Nat.le_of_ble_eq_true rfl)⟩) ⟨hz_C.blind, hz_C.mk (hP.sub (ws' := [(n_1, .inr (11, [.null, .null, .null, .null, .int 0, .null, .null, .null, .null, .int 0, .int 0, .null, .null, .null, .null, .null, .int 0]))]) [0] rfl) (hD.sub (ws' := [(n_1, .inr (11, [.null, .null, .null, .null, .int 0, .null, .null, .null, .null, .int 0, .int 0, .null, .null, .null, .null, .null, .int 0]))]) [0] (by decide) rfl) hE hS hFc⟩ rfl rfl hl.1 rfl (lv_room (Nat.le_of_ble_eq_true rfl)) dL_law_4 ⟨(Nat.le_of_ble_eq_true rfl), (Nat.le_of_ble_eq_true rfl)⟩) hS (fun q _ h => hFc q h) hFc (fun u t H1 locs ht hvm hw hB hz1 hk1 hS => ?_)
  obtain ⟨g_3, r_4, eg, hP1, hD1⟩ := hB
  rw [ht] at hP1
  obtain ⟨hP, hD⟩ := va_join (wr := []) (w1 := [(g_3 0, .inr (11, [.ref (g_3 1), .ref (g_3 2), .ref (g_3 3), .ref (g_3 4), .int 0, .ref (g_3 5), .ref (g_3 6), .ref (g_3 7), .ref (g_3 8), .int 0, .int 0, .ref (g_3 9), .ref (g_3 10), .ref (g_3 11), .ref (g_3 12), .ref (g_3 13), .int 0])), (g_3 1, .inr (7, [.ref (g_3 14), .int 0, .int 0, .int 0])), (g_3 14, .inl (cs 0, 400, .inl (fun _ => 0))), (g_3 2, .inr (0, [.null, .null, .int 0])), (g_3 3, .inr (5, [.null, .ref (g_3 15), .int 0, .int 0])), (g_3 5, .inr (8, [.int 0, .int 0, .int 0, .int 0, .int 0, .int 12, .int 5, .int 1, .int 0, .ref (r_4 0), .ref (r_4 1), .ref (r_4 2), .ref (r_4 3), .ref (r_4 4), .ref (r_4 5), .ref (r_4 6), .ref (r_4 7), .ref (r_4 8)])), (g_3 6, .inr (6, [.int 0, .ref (g_3 16), .ref (g_3 17), .ref (g_3 18), .ref (g_3 19), .ref (g_3 20)])), (g_3 16, .inl (cs 0, 4, .inl (fun _ => 0))), (g_3 17, .inl (cs 0, 4, .inl (fun _ => 0))), (g_3 18, .inl (cs 0, 4, .inl (fun _ => 0))), (g_3 19, .inl (cs 0, 4, .inl (fun _ => 0))), (g_3 20, .inl (cs 0, 8, .inl (fun _ => 0))), (g_3 9, .inr (9, [.int 0, .int 0, .int 0, .ref (g_3 21), .ref (g_3 22), .ref (g_3 23), .ref (g_3 24)])), (g_3 22, .inl (cs 0, 12, .inl (fun _ => 0))), (g_3 23, .inl (cs 0, 12, .inl (fun _ => 0))), (g_3 24, .inl (cs 2, 12, .inl (fun _ => 0))), (g_3 10, .inl (cs 6, 4, .inr (.inr (.inr (.inr (fun _ => none))))))]) hP hD [0] [] rfl rfl (by decide) (by decide) hk1 hFc hP1 hD1
  generalize H1 = H at hP hS ⊢
  have hP : va_P D classes [(g_3 0, .inr (11, [.ref (g_3 1), .ref (g_3 2), .ref (g_3 3), .ref (g_3 4), .int 0, .ref (g_3 5), .ref (g_3 6), .ref (g_3 7), .ref (g_3 8), .int 0, .int 0, .ref (g_3 9), .ref (g_3 10), .ref (g_3 11), .ref (g_3 12), .ref (g_3 13), .int 0])), (g_3 1, .inr (7, [.ref (g_3 14), .int 0, .int 0, .int 0])), (g_3 14, .inl (cs 0, 400, .inl (fun _ => 0))), (g_3 2, .inr (0, [.null, .null, .int 0])), (g_3 3, .inr (5, [.null, .ref (g_3 15), .int 0, .int 0])), (g_3 5, .inr (8, [.int 0, .int 0, .int 0, .int 0, .int 0, .int 12, .int 5, .int 1, .int 0, .ref (r_4 0), .ref (r_4 1), .ref (r_4 2), .ref (r_4 3), .ref (r_4 4), .ref (r_4 5), .ref (r_4 6), .ref (r_4 7), .ref (r_4 8)])), (g_3 6, .inr (6, [.int 0, .ref (g_3 16), .ref (g_3 17), .ref (g_3 18), .ref (g_3 19), .ref (g_3 20)])), (g_3 16, .inl (cs 0, 4, .inl (fun _ => 0))), (g_3 17, .inl (cs 0, 4, .inl (fun _ => 0))), (g_3 18, .inl (cs 0, 4, .inl (fun _ => 0))), (g_3 19, .inl (cs 0, 4, .inl (fun _ => 0))), (g_3 20, .inl (cs 0, 8, .inl (fun _ => 0))), (g_3 9, .inr (9, [.int 0, .int 0, .int 0, .ref (g_3 21), .ref (g_3 22), .ref (g_3 23), .ref (g_3 24)])), (g_3 22, .inl (cs 0, 12, .inl (fun _ => 0))), (g_3 23, .inl (cs 0, 12, .inl (fun _ => 0))), (g_3 24, .inl (cs 2, 12, .inl (fun _ => 0))), (g_3 10, .inl (cs 6, 4, .inr (.inr (.inr (.inr (fun _ => none))))))] H := hP
  have hD : va_D A [(g_3 0, .inr (11, [.ref (g_3 1), .ref (g_3 2), .ref (g_3 3), .ref (g_3 4), .int 0, .ref (g_3 5), .ref (g_3 6), .ref (g_3 7), .ref (g_3 8), .int 0, .int 0, .ref (g_3 9), .ref (g_3 10), .ref (g_3 11), .ref (g_3 12), .ref (g_3 13), .int 0])), (g_3 1, .inr (7, [.ref (g_3 14), .int 0, .int 0, .int 0])), (g_3 14, .inl (cs 0, 400, .inl (fun _ => 0))), (g_3 2, .inr (0, [.null, .null, .int 0])), (g_3 3, .inr (5, [.null, .ref (g_3 15), .int 0, .int 0])), (g_3 5, .inr (8, [.int 0, .int 0, .int 0, .int 0, .int 0, .int 12, .int 5, .int 1, .int 0, .ref (r_4 0), .ref (r_4 1), .ref (r_4 2), .ref (r_4 3), .ref (r_4 4), .ref (r_4 5), .ref (r_4 6), .ref (r_4 7), .ref (r_4 8)])), (g_3 6, .inr (6, [.int 0, .ref (g_3 16), .ref (g_3 17), .ref (g_3 18), .ref (g_3 19), .ref (g_3 20)])), (g_3 16, .inl (cs 0, 4, .inl (fun _ => 0))), (g_3 17, .inl (cs 0, 4, .inl (fun _ => 0))), (g_3 18, .inl (cs 0, 4, .inl (fun _ => 0))), (g_3 19, .inl (cs 0, 4, .inl (fun _ => 0))), (g_3 20, .inl (cs 0, 8, .inl (fun _ => 0))), (g_3 9, .inr (9, [.int 0, .int 0, .int 0, .ref (g_3 21), .ref (g_3 22), .ref (g_3 23), .ref (g_3 24)])), (g_3 22, .inl (cs 0, 12, .inl (fun _ => 0))), (g_3 23, .inl (cs 0, 12, .inl (fun _ => 0))), (g_3 24, .inl (cs 2, 12, .inl (fun _ => 0))), (g_3 10, .inl (cs 6, 4, .inr (.inr (.inr (.inr (fun _ => none))))))] := hD
  clear hk1 hFc hP1 hD1 hz1
  rw [← eg]
  clear eg
  refine W.widen (k := 166) (n := 10231) (Nat.le_of_ble_eq_true rfl) (Nat.le_of_ble_eq_true rfl) ?_
  refine lv_astore_n (lv' := [(1, .ref (g_3 0)), (0, .ref b)]) hx hb dL_law_7 rfl hl (by decide) rfl (fun ls hl => ?_)
  refine va_new (D := D) (ci := 12) (fs := [.null, .int 0, .int 0, .null, .null, .null, .null, .null, .int 0, .int 0, .int 0, .int 0, .int 0, .int 0, .int 0, .null, .int 0, .null, .int 0, .null, .null, .int 0, .null, .null, .null, .int 0, .int 0, .null, .null, .int 0, .int 0, .int 0, .null, .long 0, .null, .null, .null]) (C := RX12) (T := TX12) (N := 37) hx hb hT i_X12 tyX12 tyX12_ok hown (hT _ q_399) (hT _ q_394) (hT _ q_252) hK hP hD hS hA rfl df_X12 (Nat.le_of_ble_eq_true rfl) (Nat.le_of_ble_eq_true rfl) dL_law_8 (fun n_5 H hP hD hS => ?_)
  have hP : va_P D classes [(g_3 0, .inr (11, [.ref (g_3 1), .ref (g_3 2), .ref (g_3 3), .ref (g_3 4), .int 0, .ref (g_3 5), .ref (g_3 6), .ref (g_3 7), .ref (g_3 8), .int 0, .int 0, .ref (g_3 9), .ref (g_3 10), .ref (g_3 11), .ref (g_3 12), .ref (g_3 13), .int 0])), (g_3 1, .inr (7, [.ref (g_3 14), .int 0, .int 0, .int 0])), (g_3 14, .inl (cs 0, 400, .inl (fun _ => 0))), (g_3 2, .inr (0, [.null, .null, .int 0])), (g_3 3, .inr (5, [.null, .ref (g_3 15), .int 0, .int 0])), (g_3 5, .inr (8, [.int 0, .int 0, .int 0, .int 0, .int 0, .int 12, .int 5, .int 1, .int 0, .ref (r_4 0), .ref (r_4 1), .ref (r_4 2), .ref (r_4 3), .ref (r_4 4), .ref (r_4 5), .ref (r_4 6), .ref (r_4 7), .ref (r_4 8)])), (g_3 6, .inr (6, [.int 0, .ref (g_3 16), .ref (g_3 17), .ref (g_3 18), .ref (g_3 19), .ref (g_3 20)])), (g_3 16, .inl (cs 0, 4, .inl (fun _ => 0))), (g_3 17, .inl (cs 0, 4, .inl (fun _ => 0))), (g_3 18, .inl (cs 0, 4, .inl (fun _ => 0))), (g_3 19, .inl (cs 0, 4, .inl (fun _ => 0))), (g_3 20, .inl (cs 0, 8, .inl (fun _ => 0))), (g_3 9, .inr (9, [.int 0, .int 0, .int 0, .ref (g_3 21), .ref (g_3 22), .ref (g_3 23), .ref (g_3 24)])), (g_3 22, .inl (cs 0, 12, .inl (fun _ => 0))), (g_3 23, .inl (cs 0, 12, .inl (fun _ => 0))), (g_3 24, .inl (cs 2, 12, .inl (fun _ => 0))), (g_3 10, .inl (cs 6, 4, .inr (.inr (.inr (.inr (fun _ => none)))))), (n_5, .inr (12, [.null, .int 0, .int 0, .null, .null, .null, .null, .null, .int 0, .int 0, .int 0, .int 0, .int 0, .int 0, .int 0, .null, .int 0, .null, .int 0, .null, .null, .int 0, .null, .null, .null, .int 0, .int 0, .null, .null, .int 0, .int 0, .int 0, .null, .long 0, .null, .null, .null]))] H := hP
  have hD : va_D A [(g_3 0, .inr (11, [.ref (g_3 1), .ref (g_3 2), .ref (g_3 3), .ref (g_3 4), .int 0, .ref (g_3 5), .ref (g_3 6), .ref (g_3 7), .ref (g_3 8), .int 0, .int 0, .ref (g_3 9), .ref (g_3 10), .ref (g_3 11), .ref (g_3 12), .ref (g_3 13), .int 0])), (g_3 1, .inr (7, [.ref (g_3 14), .int 0, .int 0, .int 0])), (g_3 14, .inl (cs 0, 400, .inl (fun _ => 0))), (g_3 2, .inr (0, [.null, .null, .int 0])), (g_3 3, .inr (5, [.null, .ref (g_3 15), .int 0, .int 0])), (g_3 5, .inr (8, [.int 0, .int 0, .int 0, .int 0, .int 0, .int 12, .int 5, .int 1, .int 0, .ref (r_4 0), .ref (r_4 1), .ref (r_4 2), .ref (r_4 3), .ref (r_4 4), .ref (r_4 5), .ref (r_4 6), .ref (r_4 7), .ref (r_4 8)])), (g_3 6, .inr (6, [.int 0, .ref (g_3 16), .ref (g_3 17), .ref (g_3 18), .ref (g_3 19), .ref (g_3 20)])), (g_3 16, .inl (cs 0, 4, .inl (fun _ => 0))), (g_3 17, .inl (cs 0, 4, .inl (fun _ => 0))), (g_3 18, .inl (cs 0, 4, .inl (fun _ => 0))), (g_3 19, .inl (cs 0, 4, .inl (fun _ => 0))), (g_3 20, .inl (cs 0, 8, .inl (fun _ => 0))), (g_3 9, .inr (9, [.int 0, .int 0, .int 0, .ref (g_3 21), .ref (g_3 22), .ref (g_3 23), .ref (g_3 24)])), (g_3 22, .inl (cs 0, 12, .inl (fun _ => 0))), (g_3 23, .inl (cs 0, 12, .inl (fun _ => 0))), (g_3 24, .inl (cs 2, 12, .inl (fun _ => 0))), (g_3 10, .inl (cs 6, 4, .inr (.inr (.inr (.inr (fun _ => none)))))), (n_5, .inr (12, [.null, .int 0, .int 0, .null, .null, .null, .null, .null, .int 0, .int 0, .int 0, .int 0, .int 0, .int 0, .int 0, .null, .int 0, .null, .int 0, .null, .null, .int 0, .null, .null, .null, .int 0, .int 0, .null, .null, .int 0, .int 0, .int 0, .null, .long 0, .null, .null, .null]))] := hD
  refine W.widen (k := 167) (n := 10268) (Nat.le_of_ble_eq_true rfl) (Nat.le_of_ble_eq_true rfl) ?_
  refine lv_dup hx hb dL_law_11 rfl ?_
  have hFc := va_free (wc := [(n_5, .inr (12, [.null, .int 0, .int 0, .null, .null, .null, .null, .null, .int 0, .int 0, .int 0, .int 0, .int 0, .int 0, .int 0, .null, .int 0, .null, .int 0, .null, .null, .int 0, .null, .null, .null, .int 0, .int 0, .null, .null, .int 0, .int 0, .int 0, .null, .long 0, .null, .null, .null]))]) hD hS hA [17] rfl
  refine va_callv (va_runI (As := []) (rest := [.ref n_5]) ⟨hx, hb, hml, hown, hT⟩ (c_X12_init l D cs kK kV n_5 H.size) (cwI 0 hT (hz_gw q_400) rfl rfl rfl (hT _ q_252) (hT _ q_401) (hT _ q_402) rfl (by decide +kernel) ⟨(Nat.le_of_ble_eq_true rfl), (Nat.le_of_ble_eq_true rfl)⟩) ⟨hz_C.blind, hz_C.mk (hP.sub (ws' := [(n_5, .inr (12, [.null, .int 0, .int 0, .null, .null, .null, .null, .null, .int 0, .int 0, .int 0, .int 0, .int 0, .int 0, .int 0, .null, .int 0, .null, .int 0, .null, .null, .int 0, .null, .null, .null, .int 0, .int 0, .null, .null, .int 0, .int 0, .int 0, .null, .long 0, .null, .null, .null]))]) [17] rfl) (hD.sub (ws' := [(n_5, .inr (12, [.null, .int 0, .int 0, .null, .null, .null, .null, .null, .int 0, .int 0, .int 0, .int 0, .int 0, .int 0, .int 0, .null, .int 0, .null, .int 0, .null, .null, .int 0, .null, .null, .null, .int 0, .int 0, .null, .null, .int 0, .int 0, .int 0, .null, .long 0, .null, .null, .null]))]) [17] (by decide) rfl) hE hS hFc⟩ rfl rfl hl.1 rfl (lv_room (Nat.le_of_ble_eq_true rfl)) dL_law_12 ⟨(Nat.le_of_ble_eq_true rfl), (Nat.le_of_ble_eq_true rfl)⟩) hS (fun q _ h => hFc q h) hFc (fun u t H1 locs ht hvm hw hB hz1 hk1 hS => ?_)
  obtain ⟨g_7, eg, hP1, hD1⟩ := hB
  rw [ht] at hP1
  obtain ⟨hP, hD⟩ := va_join (wr := [(g_3 0, .inr (11, [.ref (g_3 1), .ref (g_3 2), .ref (g_3 3), .ref (g_3 4), .int 0, .ref (g_3 5), .ref (g_3 6), .ref (g_3 7), .ref (g_3 8), .int 0, .int 0, .ref (g_3 9), .ref (g_3 10), .ref (g_3 11), .ref (g_3 12), .ref (g_3 13), .int 0])), (g_3 1, .inr (7, [.ref (g_3 14), .int 0, .int 0, .int 0])), (g_3 14, .inl (cs 0, 400, .inl (fun _ => 0))), (g_3 2, .inr (0, [.null, .null, .int 0])), (g_3 3, .inr (5, [.null, .ref (g_3 15), .int 0, .int 0])), (g_3 5, .inr (8, [.int 0, .int 0, .int 0, .int 0, .int 0, .int 12, .int 5, .int 1, .int 0, .ref (r_4 0), .ref (r_4 1), .ref (r_4 2), .ref (r_4 3), .ref (r_4 4), .ref (r_4 5), .ref (r_4 6), .ref (r_4 7), .ref (r_4 8)])), (g_3 6, .inr (6, [.int 0, .ref (g_3 16), .ref (g_3 17), .ref (g_3 18), .ref (g_3 19), .ref (g_3 20)])), (g_3 16, .inl (cs 0, 4, .inl (fun _ => 0))), (g_3 17, .inl (cs 0, 4, .inl (fun _ => 0))), (g_3 18, .inl (cs 0, 4, .inl (fun _ => 0))), (g_3 19, .inl (cs 0, 4, .inl (fun _ => 0))), (g_3 20, .inl (cs 0, 8, .inl (fun _ => 0))), (g_3 9, .inr (9, [.int 0, .int 0, .int 0, .ref (g_3 21), .ref (g_3 22), .ref (g_3 23), .ref (g_3 24)])), (g_3 22, .inl (cs 0, 12, .inl (fun _ => 0))), (g_3 23, .inl (cs 0, 12, .inl (fun _ => 0))), (g_3 24, .inl (cs 2, 12, .inl (fun _ => 0))), (g_3 10, .inl (cs 6, 4, .inr (.inr (.inr (.inr (fun _ => none))))))]) (w1 := [(g_7 0, .inr (12, [.ref (g_7 1), .int 0, .int 0, .ref (g_7 2), .ref (g_7 3), .ref (g_7 4), .ref (g_7 5), .ref (g_7 6), .int 0, .int 0, .int 0, .int 0, .int 0, .int 0, .int 0, .ref (g_7 7), .int 0, .ref (g_7 8), .int 0, .ref (g_7 9), .ref (g_7 10), .int 0, .ref (g_7 11), .ref (g_7 12), .ref (g_7 13), .int 0, .int 0, .ref (g_7 14), .ref (g_7 15), .int 0, .int 0, .int 0, .ref (g_7 16), .long 0, .ref (g_7 17), .ref (g_7 18), .ref (g_7 19)])), (g_7 1, .inl (cs 1, 400, .inl (fun _ => 0))), (g_7 3, .inl (cs 0, 7, .inl (fun _ => 0))), (g_7 5, .inl (cs 0, 6, .inl (fun _ => 0))), (g_7 6, .inl (cs 0, 86, .inl (fun _ => 0))), (g_7 10, .inl (cs 0, 123, .inl (fun _ => 0))), (g_7 17, .inl (cs 0, 492, .inl (fun _ => 0))), (g_7 18, .inl (cs 0, 4, .inl (fun _ => 0))), (g_7 19, .inl (cs 2, 4, .inl (fun _ => 0)))]) hP hD [17] [0, 1, 2, 3, 4, 5, 6, 7, 8, 9, 10, 11, 12, 13, 14, 15, 16] rfl rfl (by decide) (by decide) hk1 hFc hP1 hD1
  generalize H1 = H at hP hS ⊢
  have hP : va_P D classes [(g_3 0, .inr (11, [.ref (g_3 1), .ref (g_3 2), .ref (g_3 3), .ref (g_3 4), .int 0, .ref (g_3 5), .ref (g_3 6), .ref (g_3 7), .ref (g_3 8), .int 0, .int 0, .ref (g_3 9), .ref (g_3 10), .ref (g_3 11), .ref (g_3 12), .ref (g_3 13), .int 0])), (g_3 1, .inr (7, [.ref (g_3 14), .int 0, .int 0, .int 0])), (g_3 14, .inl (cs 0, 400, .inl (fun _ => 0))), (g_3 2, .inr (0, [.null, .null, .int 0])), (g_3 3, .inr (5, [.null, .ref (g_3 15), .int 0, .int 0])), (g_3 5, .inr (8, [.int 0, .int 0, .int 0, .int 0, .int 0, .int 12, .int 5, .int 1, .int 0, .ref (r_4 0), .ref (r_4 1), .ref (r_4 2), .ref (r_4 3), .ref (r_4 4), .ref (r_4 5), .ref (r_4 6), .ref (r_4 7), .ref (r_4 8)])), (g_3 6, .inr (6, [.int 0, .ref (g_3 16), .ref (g_3 17), .ref (g_3 18), .ref (g_3 19), .ref (g_3 20)])), (g_3 16, .inl (cs 0, 4, .inl (fun _ => 0))), (g_3 17, .inl (cs 0, 4, .inl (fun _ => 0))), (g_3 18, .inl (cs 0, 4, .inl (fun _ => 0))), (g_3 19, .inl (cs 0, 4, .inl (fun _ => 0))), (g_3 20, .inl (cs 0, 8, .inl (fun _ => 0))), (g_3 9, .inr (9, [.int 0, .int 0, .int 0, .ref (g_3 21), .ref (g_3 22), .ref (g_3 23), .ref (g_3 24)])), (g_3 22, .inl (cs 0, 12, .inl (fun _ => 0))), (g_3 23, .inl (cs 0, 12, .inl (fun _ => 0))), (g_3 24, .inl (cs 2, 12, .inl (fun _ => 0))), (g_3 10, .inl (cs 6, 4, .inr (.inr (.inr (.inr (fun _ => none)))))), (g_7 0, .inr (12, [.ref (g_7 1), .int 0, .int 0, .ref (g_7 2), .ref (g_7 3), .ref (g_7 4), .ref (g_7 5), .ref (g_7 6), .int 0, .int 0, .int 0, .int 0, .int 0, .int 0, .int 0, .ref (g_7 7), .int 0, .ref (g_7 8), .int 0, .ref (g_7 9), .ref (g_7 10), .int 0, .ref (g_7 11), .ref (g_7 12), .ref (g_7 13), .int 0, .int 0, .ref (g_7 14), .ref (g_7 15), .int 0, .int 0, .int 0, .ref (g_7 16), .long 0, .ref (g_7 17), .ref (g_7 18), .ref (g_7 19)])), (g_7 1, .inl (cs 1, 400, .inl (fun _ => 0))), (g_7 3, .inl (cs 0, 7, .inl (fun _ => 0))), (g_7 5, .inl (cs 0, 6, .inl (fun _ => 0))), (g_7 6, .inl (cs 0, 86, .inl (fun _ => 0))), (g_7 10, .inl (cs 0, 123, .inl (fun _ => 0))), (g_7 17, .inl (cs 0, 492, .inl (fun _ => 0))), (g_7 18, .inl (cs 0, 4, .inl (fun _ => 0))), (g_7 19, .inl (cs 2, 4, .inl (fun _ => 0)))] H := hP
  have hD : va_D A [(g_3 0, .inr (11, [.ref (g_3 1), .ref (g_3 2), .ref (g_3 3), .ref (g_3 4), .int 0, .ref (g_3 5), .ref (g_3 6), .ref (g_3 7), .ref (g_3 8), .int 0, .int 0, .ref (g_3 9), .ref (g_3 10), .ref (g_3 11), .ref (g_3 12), .ref (g_3 13), .int 0])), (g_3 1, .inr (7, [.ref (g_3 14), .int 0, .int 0, .int 0])), (g_3 14, .inl (cs 0, 400, .inl (fun _ => 0))), (g_3 2, .inr (0, [.null, .null, .int 0])), (g_3 3, .inr (5, [.null, .ref (g_3 15), .int 0, .int 0])), (g_3 5, .inr (8, [.int 0, .int 0, .int 0, .int 0, .int 0, .int 12, .int 5, .int 1, .int 0, .ref (r_4 0), .ref (r_4 1), .ref (r_4 2), .ref (r_4 3), .ref (r_4 4), .ref (r_4 5), .ref (r_4 6), .ref (r_4 7), .ref (r_4 8)])), (g_3 6, .inr (6, [.int 0, .ref (g_3 16), .ref (g_3 17), .ref (g_3 18), .ref (g_3 19), .ref (g_3 20)])), (g_3 16, .inl (cs 0, 4, .inl (fun _ => 0))), (g_3 17, .inl (cs 0, 4, .inl (fun _ => 0))), (g_3 18, .inl (cs 0, 4, .inl (fun _ => 0))), (g_3 19, .inl (cs 0, 4, .inl (fun _ => 0))), (g_3 20, .inl (cs 0, 8, .inl (fun _ => 0))), (g_3 9, .inr (9, [.int 0, .int 0, .int 0, .ref (g_3 21), .ref (g_3 22), .ref (g_3 23), .ref (g_3 24)])), (g_3 22, .inl (cs 0, 12, .inl (fun _ => 0))), (g_3 23, .inl (cs 0, 12, .inl (fun _ => 0))), (g_3 24, .inl (cs 2, 12, .inl (fun _ => 0))), (g_3 10, .inl (cs 6, 4, .inr (.inr (.inr (.inr (fun _ => none)))))), (g_7 0, .inr (12, [.ref (g_7 1), .int 0, .int 0, .ref (g_7 2), .ref (g_7 3), .ref (g_7 4), .ref (g_7 5), .ref (g_7 6), .int 0, .int 0, .int 0, .int 0, .int 0, .int 0, .int 0, .ref (g_7 7), .int 0, .ref (g_7 8), .int 0, .ref (g_7 9), .ref (g_7 10), .int 0, .ref (g_7 11), .ref (g_7 12), .ref (g_7 13), .int 0, .int 0, .ref (g_7 14), .ref (g_7 15), .int 0, .int 0, .int 0, .ref (g_7 16), .long 0, .ref (g_7 17), .ref (g_7 18), .ref (g_7 19)])), (g_7 1, .inl (cs 1, 400, .inl (fun _ => 0))), (g_7 3, .inl (cs 0, 7, .inl (fun _ => 0))), (g_7 5, .inl (cs 0, 6, .inl (fun _ => 0))), (g_7 6, .inl (cs 0, 86, .inl (fun _ => 0))), (g_7 10, .inl (cs 0, 123, .inl (fun _ => 0))), (g_7 17, .inl (cs 0, 492, .inl (fun _ => 0))), (g_7 18, .inl (cs 0, 4, .inl (fun _ => 0))), (g_7 19, .inl (cs 2, 4, .inl (fun _ => 0)))] := hD
  clear hk1 hFc hP1 hD1 hz1
  rw [← eg]
  clear eg
  refine W.widen (k := 186) (n := 28721) (Nat.le_of_ble_eq_true rfl) (Nat.le_of_ble_eq_true rfl) ?_
  refine lv_astore_n (lv' := [(2, .ref (g_7 0)), (1, .ref (g_3 0)), (0, .ref b)]) hx hb dL_law_15 rfl hl (by decide) rfl (fun ls hl => ?_)
  refine lv_iconst (v := 0) hx hb dL_law_16 (by decide) ?_
  refine lv_istore_n (lv' := [(3, .int 0), (2, .ref (g_7 0)), (1, .ref (g_3 0)), (0, .ref b)]) hx hb dL_law_17 rfl hl (by decide) rfl (fun ls hl => ?_)
  refine lv_iload_n hx hb dL_law_18 rfl (lv_at hl 0 rfl) ?_
  refine lv_aload_n hx hb dL_law_19 rfl (lv_at hl 3 rfl) ?_
  refine va_slen hx hb hX hbl hbA hS dL_law_20 ?_
  refine lv_bipush (v := 6) hx hb dL_law_21 (by decide) ?_
  refine lv_isub hx hb dL_law_23 ?_
  refine lv_icmp_gt (tgt := 1143) hx hb dL_law_24 (by decide) (fun _ => ?_) (fun z => absurd hlt z)
  refine lv_iconst (v := 1) hx hb dL_law_1143 (by decide) ?_
  refine va_forget (fun q hq => by have h9 := hS.2.2 q hq; rw [hAe] at h9; exact h9) ?_
  refine W.widen (k := 600000) (n := 7302250) (Nat.le_of_ble_eq_true rfl) (Nat.le_of_ble_eq_true rfl) ?_
  exact lw_ret hx hb hr hlocks dL_law_1144
