/-! The law: what stands in its code. -/
theorem d_La_law_0 : decode code 0 = .ok (.new 7, 3) := by decide +kernel
theorem d_La_law_3 : decode code 3 = .ok (.dup, 1) := by decide +kernel
theorem d_La_law_4 : decode code 4 = .ok (.invokespecial 9, 3) := by decide +kernel
theorem d_La_law_7 : decode code 7 = .ok (.astore_n 1, 1) := by decide +kernel
theorem d_La_law_8 : decode code 8 = .ok (.new 10, 3) := by decide +kernel
theorem d_La_law_11 : decode code 11 = .ok (.dup, 1) := by decide +kernel
theorem d_La_law_12 : decode code 12 = .ok (.invokespecial 12, 3) := by decide +kernel
theorem d_La_law_15 : decode code 15 = .ok (.astore_n 2, 1) := by decide +kernel
theorem d_La_law_16 : decode code 16 = .ok (.iconst 0, 1) := by decide +kernel
theorem d_La_law_17 : decode code 17 = .ok (.istore_n 3, 1) := by decide +kernel
theorem d_La_law_18 : decode code 18 = .ok (.iload_n 3, 1) := by decide +kernel
theorem d_La_law_19 : decode code 19 = .ok (.aload_n 0, 1) := by decide +kernel
theorem d_La_law_20 : decode code 20 = .ok (.arraylength, 1) := by decide +kernel
theorem d_La_law_21 : decode code 21 = .ok (.bipush 6, 2) := by decide +kernel
theorem d_La_law_23 : decode code 23 = .ok (.isub, 1) := by decide +kernel
theorem d_La_law_24 : decode code 24 = .ok (.if_icmp .gt 1327, 3) := by decide +kernel
theorem d_La_law_27 : decode code 27 = .ok (.aload_n 0, 1) := by decide +kernel
theorem d_La_law_28 : decode code 28 = .ok (.iload_n 3, 1) := by decide +kernel
theorem d_La_law_29 : decode code 29 = .ok (.iaload, 1) := by decide +kernel
theorem d_La_law_30 : decode code 30 = .ok (.bipush 63, 2) := by decide +kernel
theorem d_La_law_32 : decode code 32 = .ok (.iand, 1) := by decide +kernel
theorem d_La_law_33 : decode code 33 = .ok (.tableswitch 1312 0 34 #[155, 208, 241, 274, 307, 340, 373, 406, 439, 472, 505, 538, 571, 634, 667, 690, 753, 776, 799, 842, 865, 888, 911, 934, 968, 1011, 1034, 1077, 1121, 1184, 1207, 1230, 1263, 1276, 1289], 155) := by decide +kernel
theorem d_La_law_188 : decode code 188 = .ok (.aload_n 1, 1) := by decide +kernel
theorem d_La_law_189 : decode code 189 = .ok (.aload_n 0, 1) := by decide +kernel
theorem d_La_law_190 : decode code 190 = .ok (.iload_n 3, 1) := by decide +kernel
theorem d_La_law_191 : decode code 191 = .ok (.iconst 1, 1) := by decide +kernel
theorem d_La_law_192 : decode code 192 = .ok (.iadd, 1) := by decide +kernel
theorem d_La_law_193 : decode code 193 = .ok (.iaload, 1) := by decide +kernel
theorem d_La_law_194 : decode code 194 = .ok (.aload_n 0, 1) := by decide +kernel
theorem d_La_law_195 : decode code 195 = .ok (.iload_n 3, 1) := by decide +kernel
theorem d_La_law_196 : decode code 196 = .ok (.iconst 2, 1) := by decide +kernel
theorem d_La_law_197 : decode code 197 = .ok (.iadd, 1) := by decide +kernel
theorem d_La_law_198 : decode code 198 = .ok (.iaload, 1) := by decide +kernel
theorem d_La_law_199 : decode code 199 = .ok (.aload_n 0, 1) := by decide +kernel
theorem d_La_law_200 : decode code 200 = .ok (.iload_n 3, 1) := by decide +kernel
theorem d_La_law_201 : decode code 201 = .ok (.iconst 3, 1) := by decide +kernel
theorem d_La_law_202 : decode code 202 = .ok (.iadd, 1) := by decide +kernel
theorem d_La_law_203 : decode code 203 = .ok (.iaload, 1) := by decide +kernel
theorem d_La_law_204 : decode code 204 = .ok (.aload_n 0, 1) := by decide +kernel
theorem d_La_law_205 : decode code 205 = .ok (.iload_n 3, 1) := by decide +kernel
theorem d_La_law_206 : decode code 206 = .ok (.iconst 4, 1) := by decide +kernel
theorem d_La_law_207 : decode code 207 = .ok (.iadd, 1) := by decide +kernel
theorem d_La_law_208 : decode code 208 = .ok (.iaload, 1) := by decide +kernel
theorem d_La_law_209 : decode code 209 = .ok (.invokevirtual 13, 3) := by decide +kernel
theorem d_La_law_212 : decode code 212 = .ok (.aload_n 2, 1) := by decide +kernel
theorem d_La_law_213 : decode code 213 = .ok (.aload_n 0, 1) := by decide +kernel
theorem d_La_law_214 : decode code 214 = .ok (.iload_n 3, 1) := by decide +kernel
theorem d_La_law_215 : decode code 215 = .ok (.iconst 1, 1) := by decide +kernel
theorem d_La_law_216 : decode code 216 = .ok (.iadd, 1) := by decide +kernel
theorem d_La_law_217 : decode code 217 = .ok (.iaload, 1) := by decide +kernel
theorem d_La_law_218 : decode code 218 = .ok (.aload_n 0, 1) := by decide +kernel
theorem d_La_law_219 : decode code 219 = .ok (.iload_n 3, 1) := by decide +kernel
theorem d_La_law_220 : decode code 220 = .ok (.iconst 2, 1) := by decide +kernel
theorem d_La_law_221 : decode code 221 = .ok (.iadd, 1) := by decide +kernel
theorem d_La_law_222 : decode code 222 = .ok (.iaload, 1) := by decide +kernel
theorem d_La_law_223 : decode code 223 = .ok (.aload_n 0, 1) := by decide +kernel
theorem d_La_law_224 : decode code 224 = .ok (.iload_n 3, 1) := by decide +kernel
theorem d_La_law_225 : decode code 225 = .ok (.iconst 3, 1) := by decide +kernel
theorem d_La_law_226 : decode code 226 = .ok (.iadd, 1) := by decide +kernel
theorem d_La_law_227 : decode code 227 = .ok (.iaload, 1) := by decide +kernel
theorem d_La_law_228 : decode code 228 = .ok (.aload_n 0, 1) := by decide +kernel
theorem d_La_law_229 : decode code 229 = .ok (.iload_n 3, 1) := by decide +kernel
theorem d_La_law_230 : decode code 230 = .ok (.iconst 4, 1) := by decide +kernel
theorem d_La_law_231 : decode code 231 = .ok (.iadd, 1) := by decide +kernel
theorem d_La_law_232 : decode code 232 = .ok (.iaload, 1) := by decide +kernel
theorem d_La_law_233 : decode code 233 = .ok (.invokevirtual 17, 3) := by decide +kernel
theorem d_La_law_236 : decode code 236 = .ok (.if_icmp .eq 1109, 3) := by decide +kernel
theorem d_La_law_239 : decode code 239 = .ok (.iconst 0, 1) := by decide +kernel
theorem d_La_law_240 : decode code 240 = .ok (.ireturn, 1) := by decide +kernel
theorem d_La_law_241 : decode code 241 = .ok (.aload_n 1, 1) := by decide +kernel
theorem d_La_law_242 : decode code 242 = .ok (.aload_n 0, 1) := by decide +kernel
theorem d_La_law_243 : decode code 243 = .ok (.iload_n 3, 1) := by decide +kernel
theorem d_La_law_244 : decode code 244 = .ok (.iconst 1, 1) := by decide +kernel
theorem d_La_law_245 : decode code 245 = .ok (.iadd, 1) := by decide +kernel
theorem d_La_law_246 : decode code 246 = .ok (.iaload, 1) := by decide +kernel
theorem d_La_law_247 : decode code 247 = .ok (.aload_n 0, 1) := by decide +kernel
theorem d_La_law_248 : decode code 248 = .ok (.iload_n 3, 1) := by decide +kernel
theorem d_La_law_249 : decode code 249 = .ok (.iconst 2, 1) := by decide +kernel
theorem d_La_law_250 : decode code 250 = .ok (.iadd, 1) := by decide +kernel
theorem d_La_law_251 : decode code 251 = .ok (.iaload, 1) := by decide +kernel
theorem d_La_law_252 : decode code 252 = .ok (.invokevirtual 18, 3) := by decide +kernel
theorem d_La_law_255 : decode code 255 = .ok (.aload_n 2, 1) := by decide +kernel
theorem d_La_law_256 : decode code 256 = .ok (.aload_n 0, 1) := by decide +kernel
theorem d_La_law_257 : decode code 257 = .ok (.iload_n 3, 1) := by decide +kernel
theorem d_La_law_258 : decode code 258 = .ok (.iconst 1, 1) := by decide +kernel
theorem d_La_law_259 : decode code 259 = .ok (.iadd, 1) := by decide +kernel
theorem d_La_law_260 : decode code 260 = .ok (.iaload, 1) := by decide +kernel
theorem d_La_law_261 : decode code 261 = .ok (.aload_n 0, 1) := by decide +kernel
theorem d_La_law_262 : decode code 262 = .ok (.iload_n 3, 1) := by decide +kernel
theorem d_La_law_263 : decode code 263 = .ok (.iconst 2, 1) := by decide +kernel
theorem d_La_law_264 : decode code 264 = .ok (.iadd, 1) := by decide +kernel
theorem d_La_law_265 : decode code 265 = .ok (.iaload, 1) := by decide +kernel
theorem d_La_law_266 : decode code 266 = .ok (.invokevirtual 22, 3) := by decide +kernel
theorem d_La_law_269 : decode code 269 = .ok (.if_icmp .eq 1076, 3) := by decide +kernel
theorem d_La_law_272 : decode code 272 = .ok (.iconst 0, 1) := by decide +kernel
theorem d_La_law_273 : decode code 273 = .ok (.ireturn, 1) := by decide +kernel
theorem d_La_law_274 : decode code 274 = .ok (.aload_n 1, 1) := by decide +kernel
theorem d_La_law_275 : decode code 275 = .ok (.aload_n 0, 1) := by decide +kernel
theorem d_La_law_276 : decode code 276 = .ok (.iload_n 3, 1) := by decide +kernel
theorem d_La_law_277 : decode code 277 = .ok (.iconst 1, 1) := by decide +kernel
theorem d_La_law_278 : decode code 278 = .ok (.iadd, 1) := by decide +kernel
theorem d_La_law_279 : decode code 279 = .ok (.iaload, 1) := by decide +kernel
theorem d_La_law_280 : decode code 280 = .ok (.aload_n 0, 1) := by decide +kernel
theorem d_La_law_281 : decode code 281 = .ok (.iload_n 3, 1) := by decide +kernel
theorem d_La_law_282 : decode code 282 = .ok (.iconst 2, 1) := by decide +kernel
theorem d_La_law_283 : decode code 283 = .ok (.iadd, 1) := by decide +kernel
theorem d_La_law_284 : decode code 284 = .ok (.iaload, 1) := by decide +kernel
theorem d_La_law_285 : decode code 285 = .ok (.invokevirtual 23, 3) := by decide +kernel
theorem d_La_law_288 : decode code 288 = .ok (.aload_n 2, 1) := by decide +kernel
theorem d_La_law_289 : decode code 289 = .ok (.aload_n 0, 1) := by decide +kernel
theorem d_La_law_290 : decode code 290 = .ok (.iload_n 3, 1) := by decide +kernel
theorem d_La_law_291 : decode code 291 = .ok (.iconst 1, 1) := by decide +kernel
theorem d_La_law_292 : decode code 292 = .ok (.iadd, 1) := by decide +kernel
theorem d_La_law_293 : decode code 293 = .ok (.iaload, 1) := by decide +kernel
theorem d_La_law_294 : decode code 294 = .ok (.aload_n 0, 1) := by decide +kernel
theorem d_La_law_295 : decode code 295 = .ok (.iload_n 3, 1) := by decide +kernel
theorem d_La_law_296 : decode code 296 = .ok (.iconst 2, 1) := by decide +kernel
theorem d_La_law_297 : decode code 297 = .ok (.iadd, 1) := by decide +kernel
theorem d_La_law_298 : decode code 298 = .ok (.iaload, 1) := by decide +kernel
theorem d_La_law_299 : decode code 299 = .ok (.invokevirtual 26, 3) := by decide +kernel
theorem d_La_law_302 : decode code 302 = .ok (.if_icmp .eq 1043, 3) := by decide +kernel
theorem d_La_law_305 : decode code 305 = .ok (.iconst 0, 1) := by decide +kernel
theorem d_La_law_306 : decode code 306 = .ok (.ireturn, 1) := by decide +kernel
theorem d_La_law_307 : decode code 307 = .ok (.aload_n 1, 1) := by decide +kernel
theorem d_La_law_308 : decode code 308 = .ok (.aload_n 0, 1) := by decide +kernel
theorem d_La_law_309 : decode code 309 = .ok (.iload_n 3, 1) := by decide +kernel
theorem d_La_law_310 : decode code 310 = .ok (.iconst 1, 1) := by decide +kernel
theorem d_La_law_311 : decode code 311 = .ok (.iadd, 1) := by decide +kernel
theorem d_La_law_312 : decode code 312 = .ok (.iaload, 1) := by decide +kernel
theorem d_La_law_313 : decode code 313 = .ok (.aload_n 0, 1) := by decide +kernel
theorem d_La_law_314 : decode code 314 = .ok (.iload_n 3, 1) := by decide +kernel
theorem d_La_law_315 : decode code 315 = .ok (.iconst 2, 1) := by decide +kernel
theorem d_La_law_316 : decode code 316 = .ok (.iadd, 1) := by decide +kernel
theorem d_La_law_317 : decode code 317 = .ok (.iaload, 1) := by decide +kernel
theorem d_La_law_318 : decode code 318 = .ok (.invokevirtual 27, 3) := by decide +kernel
theorem d_La_law_321 : decode code 321 = .ok (.aload_n 2, 1) := by decide +kernel
theorem d_La_law_322 : decode code 322 = .ok (.aload_n 0, 1) := by decide +kernel
theorem d_La_law_323 : decode code 323 = .ok (.iload_n 3, 1) := by decide +kernel
theorem d_La_law_324 : decode code 324 = .ok (.iconst 1, 1) := by decide +kernel
theorem d_La_law_325 : decode code 325 = .ok (.iadd, 1) := by decide +kernel
theorem d_La_law_326 : decode code 326 = .ok (.iaload, 1) := by decide +kernel
theorem d_La_law_327 : decode code 327 = .ok (.aload_n 0, 1) := by decide +kernel
theorem d_La_law_328 : decode code 328 = .ok (.iload_n 3, 1) := by decide +kernel
theorem d_La_law_329 : decode code 329 = .ok (.iconst 2, 1) := by decide +kernel
theorem d_La_law_330 : decode code 330 = .ok (.iadd, 1) := by decide +kernel
theorem d_La_law_331 : decode code 331 = .ok (.iaload, 1) := by decide +kernel
theorem d_La_law_332 : decode code 332 = .ok (.invokevirtual 30, 3) := by decide +kernel
theorem d_La_law_335 : decode code 335 = .ok (.if_icmp .eq 1010, 3) := by decide +kernel
theorem d_La_law_338 : decode code 338 = .ok (.iconst 0, 1) := by decide +kernel
theorem d_La_law_339 : decode code 339 = .ok (.ireturn, 1) := by decide +kernel
theorem d_La_law_340 : decode code 340 = .ok (.aload_n 1, 1) := by decide +kernel
theorem d_La_law_341 : decode code 341 = .ok (.aload_n 0, 1) := by decide +kernel
theorem d_La_law_342 : decode code 342 = .ok (.iload_n 3, 1) := by decide +kernel
theorem d_La_law_343 : decode code 343 = .ok (.iconst 1, 1) := by decide +kernel
theorem d_La_law_344 : decode code 344 = .ok (.iadd, 1) := by decide +kernel
theorem d_La_law_345 : decode code 345 = .ok (.iaload, 1) := by decide +kernel
theorem d_La_law_346 : decode code 346 = .ok (.aload_n 0, 1) := by decide +kernel
theorem d_La_law_347 : decode code 347 = .ok (.iload_n 3, 1) := by decide +kernel
theorem d_La_law_348 : decode code 348 = .ok (.iconst 2, 1) := by decide +kernel
theorem d_La_law_349 : decode code 349 = .ok (.iadd, 1) := by decide +kernel
theorem d_La_law_350 : decode code 350 = .ok (.iaload, 1) := by decide +kernel
theorem d_La_law_351 : decode code 351 = .ok (.invokevirtual 31, 3) := by decide +kernel
theorem d_La_law_354 : decode code 354 = .ok (.aload_n 2, 1) := by decide +kernel
theorem d_La_law_355 : decode code 355 = .ok (.aload_n 0, 1) := by decide +kernel
theorem d_La_law_356 : decode code 356 = .ok (.iload_n 3, 1) := by decide +kernel
theorem d_La_law_357 : decode code 357 = .ok (.iconst 1, 1) := by decide +kernel
theorem d_La_law_358 : decode code 358 = .ok (.iadd, 1) := by decide +kernel
theorem d_La_law_359 : decode code 359 = .ok (.iaload, 1) := by decide +kernel
theorem d_La_law_360 : decode code 360 = .ok (.aload_n 0, 1) := by decide +kernel
theorem d_La_law_361 : decode code 361 = .ok (.iload_n 3, 1) := by decide +kernel
theorem d_La_law_362 : decode code 362 = .ok (.iconst 2, 1) := by decide +kernel
theorem d_La_law_363 : decode code 363 = .ok (.iadd, 1) := by decide +kernel
theorem d_La_law_364 : decode code 364 = .ok (.iaload, 1) := by decide +kernel
theorem d_La_law_365 : decode code 365 = .ok (.invokevirtual 34, 3) := by decide +kernel
theorem d_La_law_368 : decode code 368 = .ok (.if_icmp .eq 977, 3) := by decide +kernel
theorem d_La_law_371 : decode code 371 = .ok (.iconst 0, 1) := by decide +kernel
theorem d_La_law_372 : decode code 372 = .ok (.ireturn, 1) := by decide +kernel
theorem d_La_law_373 : decode code 373 = .ok (.aload_n 1, 1) := by decide +kernel
theorem d_La_law_374 : decode code 374 = .ok (.aload_n 0, 1) := by decide +kernel
theorem d_La_law_375 : decode code 375 = .ok (.iload_n 3, 1) := by decide +kernel
theorem d_La_law_376 : decode code 376 = .ok (.iconst 1, 1) := by decide +kernel
theorem d_La_law_377 : decode code 377 = .ok (.iadd, 1) := by decide +kernel
theorem d_La_law_378 : decode code 378 = .ok (.iaload, 1) := by decide +kernel
theorem d_La_law_379 : decode code 379 = .ok (.aload_n 0, 1) := by decide +kernel
theorem d_La_law_380 : decode code 380 = .ok (.iload_n 3, 1) := by decide +kernel
theorem d_La_law_381 : decode code 381 = .ok (.iconst 2, 1) := by decide +kernel
theorem d_La_law_382 : decode code 382 = .ok (.iadd, 1) := by decide +kernel
theorem d_La_law_383 : decode code 383 = .ok (.iaload, 1) := by decide +kernel
theorem d_La_law_384 : decode code 384 = .ok (.invokevirtual 35, 3) := by decide +kernel
theorem d_La_law_387 : decode code 387 = .ok (.aload_n 2, 1) := by decide +kernel
theorem d_La_law_388 : decode code 388 = .ok (.aload_n 0, 1) := by decide +kernel
theorem d_La_law_389 : decode code 389 = .ok (.iload_n 3, 1) := by decide +kernel
theorem d_La_law_390 : decode code 390 = .ok (.iconst 1, 1) := by decide +kernel
theorem d_La_law_391 : decode code 391 = .ok (.iadd, 1) := by decide +kernel
theorem d_La_law_392 : decode code 392 = .ok (.iaload, 1) := by decide +kernel
theorem d_La_law_393 : decode code 393 = .ok (.aload_n 0, 1) := by decide +kernel
theorem d_La_law_394 : decode code 394 = .ok (.iload_n 3, 1) := by decide +kernel
theorem d_La_law_395 : decode code 395 = .ok (.iconst 2, 1) := by decide +kernel
theorem d_La_law_396 : decode code 396 = .ok (.iadd, 1) := by decide +kernel
theorem d_La_law_397 : decode code 397 = .ok (.iaload, 1) := by decide +kernel
theorem d_La_law_398 : decode code 398 = .ok (.invokevirtual 38, 3) := by decide +kernel
theorem d_La_law_401 : decode code 401 = .ok (.if_icmp .eq 944, 3) := by decide +kernel
theorem d_La_law_404 : decode code 404 = .ok (.iconst 0, 1) := by decide +kernel
theorem d_La_law_405 : decode code 405 = .ok (.ireturn, 1) := by decide +kernel
theorem d_La_law_406 : decode code 406 = .ok (.aload_n 1, 1) := by decide +kernel
theorem d_La_law_407 : decode code 407 = .ok (.aload_n 0, 1) := by decide +kernel
theorem d_La_law_408 : decode code 408 = .ok (.iload_n 3, 1) := by decide +kernel
theorem d_La_law_409 : decode code 409 = .ok (.iconst 1, 1) := by decide +kernel
theorem d_La_law_410 : decode code 410 = .ok (.iadd, 1) := by decide +kernel
theorem d_La_law_411 : decode code 411 = .ok (.iaload, 1) := by decide +kernel
theorem d_La_law_412 : decode code 412 = .ok (.aload_n 0, 1) := by decide +kernel
theorem d_La_law_413 : decode code 413 = .ok (.iload_n 3, 1) := by decide +kernel
theorem d_La_law_414 : decode code 414 = .ok (.iconst 2, 1) := by decide +kernel
theorem d_La_law_415 : decode code 415 = .ok (.iadd, 1) := by decide +kernel
theorem d_La_law_416 : decode code 416 = .ok (.iaload, 1) := by decide +kernel
theorem d_La_law_417 : decode code 417 = .ok (.invokevirtual 39, 3) := by decide +kernel
theorem d_La_law_420 : decode code 420 = .ok (.aload_n 2, 1) := by decide +kernel
theorem d_La_law_421 : decode code 421 = .ok (.aload_n 0, 1) := by decide +kernel
theorem d_La_law_422 : decode code 422 = .ok (.iload_n 3, 1) := by decide +kernel
theorem d_La_law_423 : decode code 423 = .ok (.iconst 1, 1) := by decide +kernel
theorem d_La_law_424 : decode code 424 = .ok (.iadd, 1) := by decide +kernel
theorem d_La_law_425 : decode code 425 = .ok (.iaload, 1) := by decide +kernel
theorem d_La_law_426 : decode code 426 = .ok (.aload_n 0, 1) := by decide +kernel
theorem d_La_law_427 : decode code 427 = .ok (.iload_n 3, 1) := by decide +kernel
theorem d_La_law_428 : decode code 428 = .ok (.iconst 2, 1) := by decide +kernel
theorem d_La_law_429 : decode code 429 = .ok (.iadd, 1) := by decide +kernel
theorem d_La_law_430 : decode code 430 = .ok (.iaload, 1) := by decide +kernel
theorem d_La_law_431 : decode code 431 = .ok (.invokevirtual 42, 3) := by decide +kernel
theorem d_La_law_434 : decode code 434 = .ok (.if_icmp .eq 911, 3) := by decide +kernel
theorem d_La_law_437 : decode code 437 = .ok (.iconst 0, 1) := by decide +kernel
theorem d_La_law_438 : decode code 438 = .ok (.ireturn, 1) := by decide +kernel
theorem d_La_law_439 : decode code 439 = .ok (.aload_n 1, 1) := by decide +kernel
theorem d_La_law_440 : decode code 440 = .ok (.aload_n 0, 1) := by decide +kernel
theorem d_La_law_441 : decode code 441 = .ok (.iload_n 3, 1) := by decide +kernel
theorem d_La_law_442 : decode code 442 = .ok (.iconst 1, 1) := by decide +kernel
theorem d_La_law_443 : decode code 443 = .ok (.iadd, 1) := by decide +kernel
theorem d_La_law_444 : decode code 444 = .ok (.iaload, 1) := by decide +kernel
theorem d_La_law_445 : decode code 445 = .ok (.aload_n 0, 1) := by decide +kernel
theorem d_La_law_446 : decode code 446 = .ok (.iload_n 3, 1) := by decide +kernel
theorem d_La_law_447 : decode code 447 = .ok (.iconst 2, 1) := by decide +kernel
theorem d_La_law_448 : decode code 448 = .ok (.iadd, 1) := by decide +kernel
theorem d_La_law_449 : decode code 449 = .ok (.iaload, 1) := by decide +kernel
theorem d_La_law_450 : decode code 450 = .ok (.invokevirtual 43, 3) := by decide +kernel
theorem d_La_law_453 : decode code 453 = .ok (.aload_n 2, 1) := by decide +kernel
theorem d_La_law_454 : decode code 454 = .ok (.aload_n 0, 1) := by decide +kernel
theorem d_La_law_455 : decode code 455 = .ok (.iload_n 3, 1) := by decide +kernel
theorem d_La_law_456 : decode code 456 = .ok (.iconst 1, 1) := by decide +kernel
theorem d_La_law_457 : decode code 457 = .ok (.iadd, 1) := by decide +kernel
theorem d_La_law_458 : decode code 458 = .ok (.iaload, 1) := by decide +kernel
theorem d_La_law_459 : decode code 459 = .ok (.aload_n 0, 1) := by decide +kernel
theorem d_La_law_460 : decode code 460 = .ok (.iload_n 3, 1) := by decide +kernel
theorem d_La_law_461 : decode code 461 = .ok (.iconst 2, 1) := by decide +kernel
theorem d_La_law_462 : decode code 462 = .ok (.iadd, 1) := by decide +kernel
theorem d_La_law_463 : decode code 463 = .ok (.iaload, 1) := by decide +kernel
theorem d_La_law_464 : decode code 464 = .ok (.invokevirtual 46, 3) := by decide +kernel
theorem d_La_law_467 : decode code 467 = .ok (.if_icmp .eq 878, 3) := by decide +kernel
theorem d_La_law_470 : decode code 470 = .ok (.iconst 0, 1) := by decide +kernel
theorem d_La_law_471 : decode code 471 = .ok (.ireturn, 1) := by decide +kernel
theorem d_La_law_472 : decode code 472 = .ok (.aload_n 1, 1) := by decide +kernel
theorem d_La_law_473 : decode code 473 = .ok (.aload_n 0, 1) := by decide +kernel
theorem d_La_law_474 : decode code 474 = .ok (.iload_n 3, 1) := by decide +kernel
theorem d_La_law_475 : decode code 475 = .ok (.iconst 1, 1) := by decide +kernel
theorem d_La_law_476 : decode code 476 = .ok (.iadd, 1) := by decide +kernel
theorem d_La_law_477 : decode code 477 = .ok (.iaload, 1) := by decide +kernel
theorem d_La_law_478 : decode code 478 = .ok (.aload_n 0, 1) := by decide +kernel
theorem d_La_law_479 : decode code 479 = .ok (.iload_n 3, 1) := by decide +kernel
theorem d_La_law_480 : decode code 480 = .ok (.iconst 2, 1) := by decide +kernel
theorem d_La_law_481 : decode code 481 = .ok (.iadd, 1) := by decide +kernel
theorem d_La_law_482 : decode code 482 = .ok (.iaload, 1) := by decide +kernel
theorem d_La_law_483 : decode code 483 = .ok (.invokevirtual 47, 3) := by decide +kernel
theorem d_La_law_486 : decode code 486 = .ok (.aload_n 2, 1) := by decide +kernel
theorem d_La_law_487 : decode code 487 = .ok (.aload_n 0, 1) := by decide +kernel
theorem d_La_law_488 : decode code 488 = .ok (.iload_n 3, 1) := by decide +kernel
theorem d_La_law_489 : decode code 489 = .ok (.iconst 1, 1) := by decide +kernel
theorem d_La_law_490 : decode code 490 = .ok (.iadd, 1) := by decide +kernel
theorem d_La_law_491 : decode code 491 = .ok (.iaload, 1) := by decide +kernel
theorem d_La_law_492 : decode code 492 = .ok (.aload_n 0, 1) := by decide +kernel
theorem d_La_law_493 : decode code 493 = .ok (.iload_n 3, 1) := by decide +kernel
theorem d_La_law_494 : decode code 494 = .ok (.iconst 2, 1) := by decide +kernel
theorem d_La_law_495 : decode code 495 = .ok (.iadd, 1) := by decide +kernel
theorem d_La_law_496 : decode code 496 = .ok (.iaload, 1) := by decide +kernel
theorem d_La_law_497 : decode code 497 = .ok (.invokevirtual 50, 3) := by decide +kernel
theorem d_La_law_500 : decode code 500 = .ok (.if_icmp .eq 845, 3) := by decide +kernel
theorem d_La_law_503 : decode code 503 = .ok (.iconst 0, 1) := by decide +kernel
theorem d_La_law_504 : decode code 504 = .ok (.ireturn, 1) := by decide +kernel
theorem d_La_law_505 : decode code 505 = .ok (.aload_n 1, 1) := by decide +kernel
theorem d_La_law_506 : decode code 506 = .ok (.aload_n 0, 1) := by decide +kernel
theorem d_La_law_507 : decode code 507 = .ok (.iload_n 3, 1) := by decide +kernel
theorem d_La_law_508 : decode code 508 = .ok (.iconst 1, 1) := by decide +kernel
theorem d_La_law_509 : decode code 509 = .ok (.iadd, 1) := by decide +kernel
theorem d_La_law_510 : decode code 510 = .ok (.iaload, 1) := by decide +kernel
theorem d_La_law_511 : decode code 511 = .ok (.aload_n 0, 1) := by decide +kernel
theorem d_La_law_512 : decode code 512 = .ok (.iload_n 3, 1) := by decide +kernel
theorem d_La_law_513 : decode code 513 = .ok (.iconst 2, 1) := by decide +kernel
theorem d_La_law_514 : decode code 514 = .ok (.iadd, 1) := by decide +kernel
theorem d_La_law_515 : decode code 515 = .ok (.iaload, 1) := by decide +kernel
theorem d_La_law_516 : decode code 516 = .ok (.invokevirtual 51, 3) := by decide +kernel
theorem d_La_law_519 : decode code 519 = .ok (.aload_n 2, 1) := by decide +kernel
theorem d_La_law_520 : decode code 520 = .ok (.aload_n 0, 1) := by decide +kernel
theorem d_La_law_521 : decode code 521 = .ok (.iload_n 3, 1) := by decide +kernel
theorem d_La_law_522 : decode code 522 = .ok (.iconst 1, 1) := by decide +kernel
theorem d_La_law_523 : decode code 523 = .ok (.iadd, 1) := by decide +kernel
theorem d_La_law_524 : decode code 524 = .ok (.iaload, 1) := by decide +kernel
theorem d_La_law_525 : decode code 525 = .ok (.aload_n 0, 1) := by decide +kernel
theorem d_La_law_526 : decode code 526 = .ok (.iload_n 3, 1) := by decide +kernel
theorem d_La_law_527 : decode code 527 = .ok (.iconst 2, 1) := by decide +kernel
theorem d_La_law_528 : decode code 528 = .ok (.iadd, 1) := by decide +kernel
theorem d_La_law_529 : decode code 529 = .ok (.iaload, 1) := by decide +kernel
theorem d_La_law_530 : decode code 530 = .ok (.invokevirtual 54, 3) := by decide +kernel
theorem d_La_law_533 : decode code 533 = .ok (.if_icmp .eq 812, 3) := by decide +kernel
theorem d_La_law_536 : decode code 536 = .ok (.iconst 0, 1) := by decide +kernel
theorem d_La_law_537 : decode code 537 = .ok (.ireturn, 1) := by decide +kernel
theorem d_La_law_538 : decode code 538 = .ok (.aload_n 1, 1) := by decide +kernel
theorem d_La_law_539 : decode code 539 = .ok (.aload_n 0, 1) := by decide +kernel
theorem d_La_law_540 : decode code 540 = .ok (.iload_n 3, 1) := by decide +kernel
theorem d_La_law_541 : decode code 541 = .ok (.iconst 1, 1) := by decide +kernel
theorem d_La_law_542 : decode code 542 = .ok (.iadd, 1) := by decide +kernel
theorem d_La_law_543 : decode code 543 = .ok (.iaload, 1) := by decide +kernel
theorem d_La_law_544 : decode code 544 = .ok (.aload_n 0, 1) := by decide +kernel
theorem d_La_law_545 : decode code 545 = .ok (.iload_n 3, 1) := by decide +kernel
theorem d_La_law_546 : decode code 546 = .ok (.iconst 2, 1) := by decide +kernel
theorem d_La_law_547 : decode code 547 = .ok (.iadd, 1) := by decide +kernel
theorem d_La_law_548 : decode code 548 = .ok (.iaload, 1) := by decide +kernel
theorem d_La_law_549 : decode code 549 = .ok (.invokevirtual 55, 3) := by decide +kernel
theorem d_La_law_552 : decode code 552 = .ok (.aload_n 2, 1) := by decide +kernel
theorem d_La_law_553 : decode code 553 = .ok (.aload_n 0, 1) := by decide +kernel
theorem d_La_law_554 : decode code 554 = .ok (.iload_n 3, 1) := by decide +kernel
theorem d_La_law_555 : decode code 555 = .ok (.iconst 1, 1) := by decide +kernel
theorem d_La_law_556 : decode code 556 = .ok (.iadd, 1) := by decide +kernel
theorem d_La_law_557 : decode code 557 = .ok (.iaload, 1) := by decide +kernel
theorem d_La_law_558 : decode code 558 = .ok (.aload_n 0, 1) := by decide +kernel
theorem d_La_law_559 : decode code 559 = .ok (.iload_n 3, 1) := by decide +kernel
theorem d_La_law_560 : decode code 560 = .ok (.iconst 2, 1) := by decide +kernel
theorem d_La_law_561 : decode code 561 = .ok (.iadd, 1) := by decide +kernel
theorem d_La_law_562 : decode code 562 = .ok (.iaload, 1) := by decide +kernel
theorem d_La_law_563 : decode code 563 = .ok (.invokevirtual 58, 3) := by decide +kernel
theorem d_La_law_566 : decode code 566 = .ok (.if_icmp .eq 779, 3) := by decide +kernel
theorem d_La_law_569 : decode code 569 = .ok (.iconst 0, 1) := by decide +kernel
theorem d_La_law_570 : decode code 570 = .ok (.ireturn, 1) := by decide +kernel
theorem d_La_law_571 : decode code 571 = .ok (.aload_n 1, 1) := by decide +kernel
theorem d_La_law_572 : decode code 572 = .ok (.aload_n 0, 1) := by decide +kernel
theorem d_La_law_573 : decode code 573 = .ok (.iload_n 3, 1) := by decide +kernel
theorem d_La_law_574 : decode code 574 = .ok (.iconst 1, 1) := by decide +kernel
theorem d_La_law_575 : decode code 575 = .ok (.iadd, 1) := by decide +kernel
theorem d_La_law_576 : decode code 576 = .ok (.iaload, 1) := by decide +kernel
theorem d_La_law_577 : decode code 577 = .ok (.aload_n 0, 1) := by decide +kernel
theorem d_La_law_578 : decode code 578 = .ok (.iload_n 3, 1) := by decide +kernel
theorem d_La_law_579 : decode code 579 = .ok (.iconst 2, 1) := by decide +kernel
theorem d_La_law_580 : decode code 580 = .ok (.iadd, 1) := by decide +kernel
theorem d_La_law_581 : decode code 581 = .ok (.iaload, 1) := by decide +kernel
theorem d_La_law_582 : decode code 582 = .ok (.invokevirtual 59, 3) := by decide +kernel
theorem d_La_law_585 : decode code 585 = .ok (.aload_n 2, 1) := by decide +kernel
theorem d_La_law_586 : decode code 586 = .ok (.aload_n 0, 1) := by decide +kernel
theorem d_La_law_587 : decode code 587 = .ok (.iload_n 3, 1) := by decide +kernel
theorem d_La_law_588 : decode code 588 = .ok (.iconst 1, 1) := by decide +kernel
theorem d_La_law_589 : decode code 589 = .ok (.iadd, 1) := by decide +kernel
theorem d_La_law_590 : decode code 590 = .ok (.iaload, 1) := by decide +kernel
theorem d_La_law_591 : decode code 591 = .ok (.aload_n 0, 1) := by decide +kernel
theorem d_La_law_592 : decode code 592 = .ok (.iload_n 3, 1) := by decide +kernel
theorem d_La_law_593 : decode code 593 = .ok (.iconst 2, 1) := by decide +kernel
theorem d_La_law_594 : decode code 594 = .ok (.iadd, 1) := by decide +kernel
theorem d_La_law_595 : decode code 595 = .ok (.iaload, 1) := by decide +kernel
theorem d_La_law_596 : decode code 596 = .ok (.invokevirtual 62, 3) := by decide +kernel
theorem d_La_law_599 : decode code 599 = .ok (.if_icmp .eq 746, 3) := by decide +kernel
theorem d_La_law_602 : decode code 602 = .ok (.iconst 0, 1) := by decide +kernel
theorem d_La_law_603 : decode code 603 = .ok (.ireturn, 1) := by decide +kernel
theorem d_La_law_604 : decode code 604 = .ok (.aload_n 1, 1) := by decide +kernel
theorem d_La_law_605 : decode code 605 = .ok (.aload_n 0, 1) := by decide +kernel
theorem d_La_law_606 : decode code 606 = .ok (.iload_n 3, 1) := by decide +kernel
theorem d_La_law_607 : decode code 607 = .ok (.iconst 1, 1) := by decide +kernel
theorem d_La_law_608 : decode code 608 = .ok (.iadd, 1) := by decide +kernel
theorem d_La_law_609 : decode code 609 = .ok (.iaload, 1) := by decide +kernel
theorem d_La_law_610 : decode code 610 = .ok (.aload_n 0, 1) := by decide +kernel
theorem d_La_law_611 : decode code 611 = .ok (.iload_n 3, 1) := by decide +kernel
theorem d_La_law_612 : decode code 612 = .ok (.iconst 2, 1) := by decide +kernel
theorem d_La_law_613 : decode code 613 = .ok (.iadd, 1) := by decide +kernel
theorem d_La_law_614 : decode code 614 = .ok (.iaload, 1) := by decide +kernel
theorem d_La_law_615 : decode code 615 = .ok (.aload_n 0, 1) := by decide +kernel
theorem d_La_law_616 : decode code 616 = .ok (.iload_n 3, 1) := by decide +kernel
theorem d_La_law_617 : decode code 617 = .ok (.iconst 3, 1) := by decide +kernel
theorem d_La_law_618 : decode code 618 = .ok (.iadd, 1) := by decide +kernel
theorem d_La_law_619 : decode code 619 = .ok (.iaload, 1) := by decide +kernel
theorem d_La_law_620 : decode code 620 = .ok (.aload_n 0, 1) := by decide +kernel
theorem d_La_law_621 : decode code 621 = .ok (.iload_n 3, 1) := by decide +kernel
theorem d_La_law_622 : decode code 622 = .ok (.iconst 4, 1) := by decide +kernel
theorem d_La_law_623 : decode code 623 = .ok (.iadd, 1) := by decide +kernel
theorem d_La_law_624 : decode code 624 = .ok (.iaload, 1) := by decide +kernel
theorem d_La_law_625 : decode code 625 = .ok (.aload_n 0, 1) := by decide +kernel
theorem d_La_law_626 : decode code 626 = .ok (.iload_n 3, 1) := by decide +kernel
theorem d_La_law_627 : decode code 627 = .ok (.iconst 5, 1) := by decide +kernel
theorem d_La_law_628 : decode code 628 = .ok (.iadd, 1) := by decide +kernel
theorem d_La_law_629 : decode code 629 = .ok (.iaload, 1) := by decide +kernel
theorem d_La_law_630 : decode code 630 = .ok (.invokevirtual 63, 3) := by decide +kernel
theorem d_La_law_633 : decode code 633 = .ok (.aload_n 2, 1) := by decide +kernel
theorem d_La_law_634 : decode code 634 = .ok (.aload_n 0, 1) := by decide +kernel
theorem d_La_law_635 : decode code 635 = .ok (.iload_n 3, 1) := by decide +kernel
theorem d_La_law_636 : decode code 636 = .ok (.iconst 1, 1) := by decide +kernel
theorem d_La_law_637 : decode code 637 = .ok (.iadd, 1) := by decide +kernel
theorem d_La_law_638 : decode code 638 = .ok (.iaload, 1) := by decide +kernel
theorem d_La_law_639 : decode code 639 = .ok (.aload_n 0, 1) := by decide +kernel
theorem d_La_law_640 : decode code 640 = .ok (.iload_n 3, 1) := by decide +kernel
theorem d_La_law_641 : decode code 641 = .ok (.iconst 2, 1) := by decide +kernel
theorem d_La_law_642 : decode code 642 = .ok (.iadd, 1) := by decide +kernel
theorem d_La_law_643 : decode code 643 = .ok (.iaload, 1) := by decide +kernel
theorem d_La_law_644 : decode code 644 = .ok (.aload_n 0, 1) := by decide +kernel
theorem d_La_law_645 : decode code 645 = .ok (.iload_n 3, 1) := by decide +kernel
theorem d_La_law_646 : decode code 646 = .ok (.iconst 3, 1) := by decide +kernel
theorem d_La_law_647 : decode code 647 = .ok (.iadd, 1) := by decide +kernel
theorem d_La_law_648 : decode code 648 = .ok (.iaload, 1) := by decide +kernel
theorem d_La_law_649 : decode code 649 = .ok (.aload_n 0, 1) := by decide +kernel
theorem d_La_law_650 : decode code 650 = .ok (.iload_n 3, 1) := by decide +kernel
theorem d_La_law_651 : decode code 651 = .ok (.iconst 4, 1) := by decide +kernel
theorem d_La_law_652 : decode code 652 = .ok (.iadd, 1) := by decide +kernel
theorem d_La_law_653 : decode code 653 = .ok (.iaload, 1) := by decide +kernel
theorem d_La_law_654 : decode code 654 = .ok (.aload_n 0, 1) := by decide +kernel
theorem d_La_law_655 : decode code 655 = .ok (.iload_n 3, 1) := by decide +kernel
theorem d_La_law_656 : decode code 656 = .ok (.iconst 5, 1) := by decide +kernel
theorem d_La_law_657 : decode code 657 = .ok (.iadd, 1) := by decide +kernel
theorem d_La_law_658 : decode code 658 = .ok (.iaload, 1) := by decide +kernel
theorem d_La_law_659 : decode code 659 = .ok (.invokevirtual 67, 3) := by decide +kernel
theorem d_La_law_662 : decode code 662 = .ok (.if_icmp .eq 683, 3) := by decide +kernel
theorem d_La_law_665 : decode code 665 = .ok (.iconst 0, 1) := by decide +kernel
theorem d_La_law_666 : decode code 666 = .ok (.ireturn, 1) := by decide +kernel
theorem d_La_law_667 : decode code 667 = .ok (.aload_n 1, 1) := by decide +kernel
theorem d_La_law_668 : decode code 668 = .ok (.aload_n 0, 1) := by decide +kernel
theorem d_La_law_669 : decode code 669 = .ok (.iload_n 3, 1) := by decide +kernel
theorem d_La_law_670 : decode code 670 = .ok (.iconst 1, 1) := by decide +kernel
theorem d_La_law_671 : decode code 671 = .ok (.iadd, 1) := by decide +kernel
theorem d_La_law_672 : decode code 672 = .ok (.iaload, 1) := by decide +kernel
theorem d_La_law_673 : decode code 673 = .ok (.aload_n 0, 1) := by decide +kernel
theorem d_La_law_674 : decode code 674 = .ok (.iload_n 3, 1) := by decide +kernel
theorem d_La_law_675 : decode code 675 = .ok (.iconst 2, 1) := by decide +kernel
theorem d_La_law_676 : decode code 676 = .ok (.iadd, 1) := by decide +kernel
theorem d_La_law_677 : decode code 677 = .ok (.iaload, 1) := by decide +kernel
theorem d_La_law_678 : decode code 678 = .ok (.invokevirtual 68, 3) := by decide +kernel
theorem d_La_law_681 : decode code 681 = .ok (.aload_n 2, 1) := by decide +kernel
theorem d_La_law_682 : decode code 682 = .ok (.aload_n 0, 1) := by decide +kernel
theorem d_La_law_683 : decode code 683 = .ok (.iload_n 3, 1) := by decide +kernel
theorem d_La_law_684 : decode code 684 = .ok (.iconst 1, 1) := by decide +kernel
theorem d_La_law_685 : decode code 685 = .ok (.iadd, 1) := by decide +kernel
theorem d_La_law_686 : decode code 686 = .ok (.iaload, 1) := by decide +kernel
theorem d_La_law_687 : decode code 687 = .ok (.aload_n 0, 1) := by decide +kernel
theorem d_La_law_688 : decode code 688 = .ok (.iload_n 3, 1) := by decide +kernel
theorem d_La_law_689 : decode code 689 = .ok (.iconst 2, 1) := by decide +kernel
theorem d_La_law_690 : decode code 690 = .ok (.iadd, 1) := by decide +kernel
theorem d_La_law_691 : decode code 691 = .ok (.iaload, 1) := by decide +kernel
theorem d_La_law_692 : decode code 692 = .ok (.invokevirtual 71, 3) := by decide +kernel
theorem d_La_law_695 : decode code 695 = .ok (.if_icmp .eq 650, 3) := by decide +kernel
theorem d_La_law_698 : decode code 698 = .ok (.iconst 0, 1) := by decide +kernel
theorem d_La_law_699 : decode code 699 = .ok (.ireturn, 1) := by decide +kernel
theorem d_La_law_700 : decode code 700 = .ok (.aload_n 1, 1) := by decide +kernel
theorem d_La_law_701 : decode code 701 = .ok (.aload_n 0, 1) := by decide +kernel
theorem d_La_law_702 : decode code 702 = .ok (.iload_n 3, 1) := by decide +kernel
theorem d_La_law_703 : decode code 703 = .ok (.iconst 1, 1) := by decide +kernel
theorem d_La_law_704 : decode code 704 = .ok (.iadd, 1) := by decide +kernel
theorem d_La_law_705 : decode code 705 = .ok (.iaload, 1) := by decide +kernel
theorem d_La_law_706 : decode code 706 = .ok (.invokevirtual 72, 3) := by decide +kernel
theorem d_La_law_709 : decode code 709 = .ok (.aload_n 2, 1) := by decide +kernel
theorem d_La_law_710 : decode code 710 = .ok (.aload_n 0, 1) := by decide +kernel
theorem d_La_law_711 : decode code 711 = .ok (.iload_n 3, 1) := by decide +kernel
theorem d_La_law_712 : decode code 712 = .ok (.iconst 1, 1) := by decide +kernel
theorem d_La_law_713 : decode code 713 = .ok (.iadd, 1) := by decide +kernel
theorem d_La_law_714 : decode code 714 = .ok (.iaload, 1) := by decide +kernel
theorem d_La_law_715 : decode code 715 = .ok (.invokevirtual 76, 3) := by decide +kernel
theorem d_La_law_718 : decode code 718 = .ok (.if_icmp .eq 627, 3) := by decide +kernel
theorem d_La_law_721 : decode code 721 = .ok (.iconst 0, 1) := by decide +kernel
theorem d_La_law_722 : decode code 722 = .ok (.ireturn, 1) := by decide +kernel
theorem d_La_law_723 : decode code 723 = .ok (.aload_n 1, 1) := by decide +kernel
theorem d_La_law_724 : decode code 724 = .ok (.aload_n 0, 1) := by decide +kernel
theorem d_La_law_725 : decode code 725 = .ok (.iload_n 3, 1) := by decide +kernel
theorem d_La_law_726 : decode code 726 = .ok (.iconst 1, 1) := by decide +kernel
theorem d_La_law_727 : decode code 727 = .ok (.iadd, 1) := by decide +kernel
theorem d_La_law_728 : decode code 728 = .ok (.iaload, 1) := by decide +kernel
theorem d_La_law_729 : decode code 729 = .ok (.aload_n 0, 1) := by decide +kernel
theorem d_La_law_730 : decode code 730 = .ok (.iload_n 3, 1) := by decide +kernel
theorem d_La_law_731 : decode code 731 = .ok (.iconst 2, 1) := by decide +kernel
theorem d_La_law_732 : decode code 732 = .ok (.iadd, 1) := by decide +kernel
theorem d_La_law_733 : decode code 733 = .ok (.iaload, 1) := by decide +kernel
theorem d_La_law_734 : decode code 734 = .ok (.aload_n 0, 1) := by decide +kernel
theorem d_La_law_735 : decode code 735 = .ok (.iload_n 3, 1) := by decide +kernel
theorem d_La_law_736 : decode code 736 = .ok (.iconst 3, 1) := by decide +kernel
theorem d_La_law_737 : decode code 737 = .ok (.iadd, 1) := by decide +kernel
theorem d_La_law_738 : decode code 738 = .ok (.iaload, 1) := by decide +kernel
theorem d_La_law_739 : decode code 739 = .ok (.aload_n 0, 1) := by decide +kernel
theorem d_La_law_740 : decode code 740 = .ok (.iload_n 3, 1) := by decide +kernel
theorem d_La_law_741 : decode code 741 = .ok (.iconst 4, 1) := by decide +kernel
theorem d_La_law_742 : decode code 742 = .ok (.iadd, 1) := by decide +kernel
theorem d_La_law_743 : decode code 743 = .ok (.iaload, 1) := by decide +kernel
theorem d_La_law_744 : decode code 744 = .ok (.aload_n 0, 1) := by decide +kernel
theorem d_La_law_745 : decode code 745 = .ok (.iload_n 3, 1) := by decide +kernel
theorem d_La_law_746 : decode code 746 = .ok (.iconst 5, 1) := by decide +kernel
theorem d_La_law_747 : decode code 747 = .ok (.iadd, 1) := by decide +kernel
theorem d_La_law_748 : decode code 748 = .ok (.iaload, 1) := by decide +kernel
theorem d_La_law_749 : decode code 749 = .ok (.invokevirtual 77, 3) := by decide +kernel
theorem d_La_law_752 : decode code 752 = .ok (.aload_n 2, 1) := by decide +kernel
theorem d_La_law_753 : decode code 753 = .ok (.aload_n 0, 1) := by decide +kernel
theorem d_La_law_754 : decode code 754 = .ok (.iload_n 3, 1) := by decide +kernel
theorem d_La_law_755 : decode code 755 = .ok (.iconst 1, 1) := by decide +kernel
theorem d_La_law_756 : decode code 756 = .ok (.iadd, 1) := by decide +kernel
theorem d_La_law_757 : decode code 757 = .ok (.iaload, 1) := by decide +kernel
theorem d_La_law_758 : decode code 758 = .ok (.aload_n 0, 1) := by decide +kernel
theorem d_La_law_759 : decode code 759 = .ok (.iload_n 3, 1) := by decide +kernel
theorem d_La_law_760 : decode code 760 = .ok (.iconst 2, 1) := by decide +kernel
theorem d_La_law_761 : decode code 761 = .ok (.iadd, 1) := by decide +kernel
theorem d_La_law_762 : decode code 762 = .ok (.iaload, 1) := by decide +kernel
theorem d_La_law_763 : decode code 763 = .ok (.aload_n 0, 1) := by decide +kernel
theorem d_La_law_764 : decode code 764 = .ok (.iload_n 3, 1) := by decide +kernel
theorem d_La_law_765 : decode code 765 = .ok (.iconst 3, 1) := by decide +kernel
theorem d_La_law_766 : decode code 766 = .ok (.iadd, 1) := by decide +kernel
theorem d_La_law_767 : decode code 767 = .ok (.iaload, 1) := by decide +kernel
theorem d_La_law_768 : decode code 768 = .ok (.aload_n 0, 1) := by decide +kernel
theorem d_La_law_769 : decode code 769 = .ok (.iload_n 3, 1) := by decide +kernel
theorem d_La_law_770 : decode code 770 = .ok (.iconst 4, 1) := by decide +kernel
theorem d_La_law_771 : decode code 771 = .ok (.iadd, 1) := by decide +kernel
theorem d_La_law_772 : decode code 772 = .ok (.iaload, 1) := by decide +kernel
theorem d_La_law_773 : decode code 773 = .ok (.aload_n 0, 1) := by decide +kernel
theorem d_La_law_774 : decode code 774 = .ok (.iload_n 3, 1) := by decide +kernel
theorem d_La_law_775 : decode code 775 = .ok (.iconst 5, 1) := by decide +kernel
theorem d_La_law_776 : decode code 776 = .ok (.iadd, 1) := by decide +kernel
theorem d_La_law_777 : decode code 777 = .ok (.iaload, 1) := by decide +kernel
theorem d_La_law_778 : decode code 778 = .ok (.invokevirtual 80, 3) := by decide +kernel
theorem d_La_law_781 : decode code 781 = .ok (.if_icmp .eq 564, 3) := by decide +kernel
theorem d_La_law_784 : decode code 784 = .ok (.iconst 0, 1) := by decide +kernel
theorem d_La_law_785 : decode code 785 = .ok (.ireturn, 1) := by decide +kernel
theorem d_La_law_786 : decode code 786 = .ok (.aload_n 1, 1) := by decide +kernel
theorem d_La_law_787 : decode code 787 = .ok (.aload_n 0, 1) := by decide +kernel
theorem d_La_law_788 : decode code 788 = .ok (.iload_n 3, 1) := by decide +kernel
theorem d_La_law_789 : decode code 789 = .ok (.iconst 1, 1) := by decide +kernel
theorem d_La_law_790 : decode code 790 = .ok (.iadd, 1) := by decide +kernel
theorem d_La_law_791 : decode code 791 = .ok (.iaload, 1) := by decide +kernel
theorem d_La_law_792 : decode code 792 = .ok (.invokevirtual 81, 3) := by decide +kernel
theorem d_La_law_795 : decode code 795 = .ok (.aload_n 2, 1) := by decide +kernel
theorem d_La_law_796 : decode code 796 = .ok (.aload_n 0, 1) := by decide +kernel
theorem d_La_law_797 : decode code 797 = .ok (.iload_n 3, 1) := by decide +kernel
theorem d_La_law_798 : decode code 798 = .ok (.iconst 1, 1) := by decide +kernel
theorem d_La_law_799 : decode code 799 = .ok (.iadd, 1) := by decide +kernel
theorem d_La_law_800 : decode code 800 = .ok (.iaload, 1) := by decide +kernel
theorem d_La_law_801 : decode code 801 = .ok (.invokevirtual 84, 3) := by decide +kernel
theorem d_La_law_804 : decode code 804 = .ok (.if_icmp .eq 541, 3) := by decide +kernel
theorem d_La_law_807 : decode code 807 = .ok (.iconst 0, 1) := by decide +kernel
theorem d_La_law_808 : decode code 808 = .ok (.ireturn, 1) := by decide +kernel
theorem d_La_law_809 : decode code 809 = .ok (.aload_n 1, 1) := by decide +kernel
theorem d_La_law_810 : decode code 810 = .ok (.aload_n 0, 1) := by decide +kernel
theorem d_La_law_811 : decode code 811 = .ok (.iload_n 3, 1) := by decide +kernel
theorem d_La_law_812 : decode code 812 = .ok (.iconst 1, 1) := by decide +kernel
theorem d_La_law_813 : decode code 813 = .ok (.iadd, 1) := by decide +kernel
theorem d_La_law_814 : decode code 814 = .ok (.iaload, 1) := by decide +kernel
theorem d_La_law_815 : decode code 815 = .ok (.invokevirtual 85, 3) := by decide +kernel
theorem d_La_law_818 : decode code 818 = .ok (.aload_n 2, 1) := by decide +kernel
theorem d_La_law_819 : decode code 819 = .ok (.aload_n 0, 1) := by decide +kernel
theorem d_La_law_820 : decode code 820 = .ok (.iload_n 3, 1) := by decide +kernel
theorem d_La_law_821 : decode code 821 = .ok (.iconst 1, 1) := by decide +kernel
theorem d_La_law_822 : decode code 822 = .ok (.iadd, 1) := by decide +kernel
theorem d_La_law_823 : decode code 823 = .ok (.iaload, 1) := by decide +kernel
theorem d_La_law_824 : decode code 824 = .ok (.invokevirtual 88, 3) := by decide +kernel
theorem d_La_law_827 : decode code 827 = .ok (.if_icmp .eq 518, 3) := by decide +kernel
theorem d_La_law_830 : decode code 830 = .ok (.iconst 0, 1) := by decide +kernel
theorem d_La_law_831 : decode code 831 = .ok (.ireturn, 1) := by decide +kernel
theorem d_La_law_832 : decode code 832 = .ok (.aload_n 1, 1) := by decide +kernel
theorem d_La_law_833 : decode code 833 = .ok (.aload_n 0, 1) := by decide +kernel
theorem d_La_law_834 : decode code 834 = .ok (.iload_n 3, 1) := by decide +kernel
theorem d_La_law_835 : decode code 835 = .ok (.iconst 1, 1) := by decide +kernel
theorem d_La_law_836 : decode code 836 = .ok (.iadd, 1) := by decide +kernel
theorem d_La_law_837 : decode code 837 = .ok (.iaload, 1) := by decide +kernel
theorem d_La_law_838 : decode code 838 = .ok (.aload_n 0, 1) := by decide +kernel
theorem d_La_law_839 : decode code 839 = .ok (.iload_n 3, 1) := by decide +kernel
theorem d_La_law_840 : decode code 840 = .ok (.iconst 2, 1) := by decide +kernel
theorem d_La_law_841 : decode code 841 = .ok (.iadd, 1) := by decide +kernel
theorem d_La_law_842 : decode code 842 = .ok (.iaload, 1) := by decide +kernel
theorem d_La_law_843 : decode code 843 = .ok (.aload_n 0, 1) := by decide +kernel
theorem d_La_law_844 : decode code 844 = .ok (.iload_n 3, 1) := by decide +kernel
theorem d_La_law_845 : decode code 845 = .ok (.iconst 3, 1) := by decide +kernel
theorem d_La_law_846 : decode code 846 = .ok (.iadd, 1) := by decide +kernel
theorem d_La_law_847 : decode code 847 = .ok (.iaload, 1) := by decide +kernel
theorem d_La_law_848 : decode code 848 = .ok (.invokevirtual 89, 3) := by decide +kernel
theorem d_La_law_851 : decode code 851 = .ok (.aload_n 2, 1) := by decide +kernel
theorem d_La_law_852 : decode code 852 = .ok (.aload_n 0, 1) := by decide +kernel
theorem d_La_law_853 : decode code 853 = .ok (.iload_n 3, 1) := by decide +kernel
theorem d_La_law_854 : decode code 854 = .ok (.iconst 1, 1) := by decide +kernel
theorem d_La_law_855 : decode code 855 = .ok (.iadd, 1) := by decide +kernel
theorem d_La_law_856 : decode code 856 = .ok (.iaload, 1) := by decide +kernel
theorem d_La_law_857 : decode code 857 = .ok (.aload_n 0, 1) := by decide +kernel
theorem d_La_law_858 : decode code 858 = .ok (.iload_n 3, 1) := by decide +kernel
theorem d_La_law_859 : decode code 859 = .ok (.iconst 2, 1) := by decide +kernel
theorem d_La_law_860 : decode code 860 = .ok (.iadd, 1) := by decide +kernel
theorem d_La_law_861 : decode code 861 = .ok (.iaload, 1) := by decide +kernel
theorem d_La_law_862 : decode code 862 = .ok (.aload_n 0, 1) := by decide +kernel
theorem d_La_law_863 : decode code 863 = .ok (.iload_n 3, 1) := by decide +kernel
theorem d_La_law_864 : decode code 864 = .ok (.iconst 3, 1) := by decide +kernel
theorem d_La_law_865 : decode code 865 = .ok (.iadd, 1) := by decide +kernel
theorem d_La_law_866 : decode code 866 = .ok (.iaload, 1) := by decide +kernel
theorem d_La_law_867 : decode code 867 = .ok (.invokevirtual 93, 3) := by decide +kernel
theorem d_La_law_870 : decode code 870 = .ok (.if_icmp .eq 475, 3) := by decide +kernel
theorem d_La_law_873 : decode code 873 = .ok (.iconst 0, 1) := by decide +kernel
theorem d_La_law_874 : decode code 874 = .ok (.ireturn, 1) := by decide +kernel
theorem d_La_law_875 : decode code 875 = .ok (.aload_n 1, 1) := by decide +kernel
theorem d_La_law_876 : decode code 876 = .ok (.aload_n 0, 1) := by decide +kernel
theorem d_La_law_877 : decode code 877 = .ok (.iload_n 3, 1) := by decide +kernel
theorem d_La_law_878 : decode code 878 = .ok (.iconst 1, 1) := by decide +kernel
theorem d_La_law_879 : decode code 879 = .ok (.iadd, 1) := by decide +kernel
theorem d_La_law_880 : decode code 880 = .ok (.iaload, 1) := by decide +kernel
theorem d_La_law_881 : decode code 881 = .ok (.invokevirtual 94, 3) := by decide +kernel
theorem d_La_law_884 : decode code 884 = .ok (.aload_n 2, 1) := by decide +kernel
theorem d_La_law_885 : decode code 885 = .ok (.aload_n 0, 1) := by decide +kernel
theorem d_La_law_886 : decode code 886 = .ok (.iload_n 3, 1) := by decide +kernel
theorem d_La_law_887 : decode code 887 = .ok (.iconst 1, 1) := by decide +kernel
theorem d_La_law_888 : decode code 888 = .ok (.iadd, 1) := by decide +kernel
theorem d_La_law_889 : decode code 889 = .ok (.iaload, 1) := by decide +kernel
theorem d_La_law_890 : decode code 890 = .ok (.invokevirtual 97, 3) := by decide +kernel
theorem d_La_law_893 : decode code 893 = .ok (.if_icmp .eq 452, 3) := by decide +kernel
theorem d_La_law_896 : decode code 896 = .ok (.iconst 0, 1) := by decide +kernel
theorem d_La_law_897 : decode code 897 = .ok (.ireturn, 1) := by decide +kernel
theorem d_La_law_898 : decode code 898 = .ok (.aload_n 1, 1) := by decide +kernel
theorem d_La_law_899 : decode code 899 = .ok (.aload_n 0, 1) := by decide +kernel
theorem d_La_law_900 : decode code 900 = .ok (.iload_n 3, 1) := by decide +kernel
theorem d_La_law_901 : decode code 901 = .ok (.iconst 1, 1) := by decide +kernel
theorem d_La_law_902 : decode code 902 = .ok (.iadd, 1) := by decide +kernel
theorem d_La_law_903 : decode code 903 = .ok (.iaload, 1) := by decide +kernel
theorem d_La_law_904 : decode code 904 = .ok (.invokevirtual 98, 3) := by decide +kernel
theorem d_La_law_907 : decode code 907 = .ok (.aload_n 2, 1) := by decide +kernel
theorem d_La_law_908 : decode code 908 = .ok (.aload_n 0, 1) := by decide +kernel
theorem d_La_law_909 : decode code 909 = .ok (.iload_n 3, 1) := by decide +kernel
theorem d_La_law_910 : decode code 910 = .ok (.iconst 1, 1) := by decide +kernel
theorem d_La_law_911 : decode code 911 = .ok (.iadd, 1) := by decide +kernel
theorem d_La_law_912 : decode code 912 = .ok (.iaload, 1) := by decide +kernel
theorem d_La_law_913 : decode code 913 = .ok (.invokevirtual 101, 3) := by decide +kernel
theorem d_La_law_916 : decode code 916 = .ok (.if_icmp .eq 429, 3) := by decide +kernel
theorem d_La_law_919 : decode code 919 = .ok (.iconst 0, 1) := by decide +kernel
theorem d_La_law_920 : decode code 920 = .ok (.ireturn, 1) := by decide +kernel
theorem d_La_law_921 : decode code 921 = .ok (.aload_n 1, 1) := by decide +kernel
theorem d_La_law_922 : decode code 922 = .ok (.aload_n 0, 1) := by decide +kernel
theorem d_La_law_923 : decode code 923 = .ok (.iload_n 3, 1) := by decide +kernel
theorem d_La_law_924 : decode code 924 = .ok (.iconst 1, 1) := by decide +kernel
theorem d_La_law_925 : decode code 925 = .ok (.iadd, 1) := by decide +kernel
theorem d_La_law_926 : decode code 926 = .ok (.iaload, 1) := by decide +kernel
theorem d_La_law_927 : decode code 927 = .ok (.invokevirtual 102, 3) := by decide +kernel
theorem d_La_law_930 : decode code 930 = .ok (.aload_n 2, 1) := by decide +kernel
theorem d_La_law_931 : decode code 931 = .ok (.aload_n 0, 1) := by decide +kernel
theorem d_La_law_932 : decode code 932 = .ok (.iload_n 3, 1) := by decide +kernel
theorem d_La_law_933 : decode code 933 = .ok (.iconst 1, 1) := by decide +kernel
theorem d_La_law_934 : decode code 934 = .ok (.iadd, 1) := by decide +kernel
theorem d_La_law_935 : decode code 935 = .ok (.iaload, 1) := by decide +kernel
theorem d_La_law_936 : decode code 936 = .ok (.invokevirtual 105, 3) := by decide +kernel
theorem d_La_law_939 : decode code 939 = .ok (.if_icmp .eq 406, 3) := by decide +kernel
theorem d_La_law_942 : decode code 942 = .ok (.iconst 0, 1) := by decide +kernel
theorem d_La_law_943 : decode code 943 = .ok (.ireturn, 1) := by decide +kernel
theorem d_La_law_944 : decode code 944 = .ok (.aload_n 1, 1) := by decide +kernel
theorem d_La_law_945 : decode code 945 = .ok (.aload_n 0, 1) := by decide +kernel
theorem d_La_law_946 : decode code 946 = .ok (.iload_n 3, 1) := by decide +kernel
theorem d_La_law_947 : decode code 947 = .ok (.iconst 1, 1) := by decide +kernel
theorem d_La_law_948 : decode code 948 = .ok (.iadd, 1) := by decide +kernel
theorem d_La_law_949 : decode code 949 = .ok (.iaload, 1) := by decide +kernel
theorem d_La_law_950 : decode code 950 = .ok (.invokevirtual 106, 3) := by decide +kernel
theorem d_La_law_953 : decode code 953 = .ok (.aload_n 2, 1) := by decide +kernel
theorem d_La_law_954 : decode code 954 = .ok (.aload_n 0, 1) := by decide +kernel
theorem d_La_law_955 : decode code 955 = .ok (.iload_n 3, 1) := by decide +kernel
theorem d_La_law_956 : decode code 956 = .ok (.iconst 1, 1) := by decide +kernel
theorem d_La_law_957 : decode code 957 = .ok (.iadd, 1) := by decide +kernel
theorem d_La_law_958 : decode code 958 = .ok (.iaload, 1) := by decide +kernel
theorem d_La_law_959 : decode code 959 = .ok (.invokevirtual 109, 3) := by decide +kernel
theorem d_La_law_962 : decode code 962 = .ok (.if_icmp .eq 383, 3) := by decide +kernel
theorem d_La_law_965 : decode code 965 = .ok (.iconst 0, 1) := by decide +kernel
theorem d_La_law_966 : decode code 966 = .ok (.ireturn, 1) := by decide +kernel
theorem d_La_law_967 : decode code 967 = .ok (.aload_n 1, 1) := by decide +kernel
theorem d_La_law_968 : decode code 968 = .ok (.aload_n 0, 1) := by decide +kernel
theorem d_La_law_969 : decode code 969 = .ok (.iload_n 3, 1) := by decide +kernel
theorem d_La_law_970 : decode code 970 = .ok (.iconst 1, 1) := by decide +kernel
theorem d_La_law_971 : decode code 971 = .ok (.iadd, 1) := by decide +kernel
theorem d_La_law_972 : decode code 972 = .ok (.iaload, 1) := by decide +kernel
theorem d_La_law_973 : decode code 973 = .ok (.aload_n 0, 1) := by decide +kernel
theorem d_La_law_974 : decode code 974 = .ok (.iload_n 3, 1) := by decide +kernel
theorem d_La_law_975 : decode code 975 = .ok (.iconst 2, 1) := by decide +kernel
theorem d_La_law_976 : decode code 976 = .ok (.iadd, 1) := by decide +kernel
theorem d_La_law_977 : decode code 977 = .ok (.iaload, 1) := by decide +kernel
theorem d_La_law_978 : decode code 978 = .ok (.invokevirtual 110, 3) := by decide +kernel
theorem d_La_law_981 : decode code 981 = .ok (.aload_n 2, 1) := by decide +kernel
theorem d_La_law_982 : decode code 982 = .ok (.aload_n 0, 1) := by decide +kernel
theorem d_La_law_983 : decode code 983 = .ok (.iload_n 3, 1) := by decide +kernel
theorem d_La_law_984 : decode code 984 = .ok (.iconst 1, 1) := by decide +kernel
theorem d_La_law_985 : decode code 985 = .ok (.iadd, 1) := by decide +kernel
theorem d_La_law_986 : decode code 986 = .ok (.iaload, 1) := by decide +kernel
theorem d_La_law_987 : decode code 987 = .ok (.aload_n 0, 1) := by decide +kernel
theorem d_La_law_988 : decode code 988 = .ok (.iload_n 3, 1) := by decide +kernel
theorem d_La_law_989 : decode code 989 = .ok (.iconst 2, 1) := by decide +kernel
theorem d_La_law_990 : decode code 990 = .ok (.iadd, 1) := by decide +kernel
theorem d_La_law_991 : decode code 991 = .ok (.iaload, 1) := by decide +kernel
theorem d_La_law_992 : decode code 992 = .ok (.invokevirtual 114, 3) := by decide +kernel
theorem d_La_law_995 : decode code 995 = .ok (.lcmp, 1) := by decide +kernel
theorem d_La_law_996 : decode code 996 = .ok (.ifCond .eq 349, 3) := by decide +kernel
theorem d_La_law_999 : decode code 999 = .ok (.iconst 0, 1) := by decide +kernel
theorem d_La_law_1000 : decode code 1000 = .ok (.ireturn, 1) := by decide +kernel
theorem d_La_law_1001 : decode code 1001 = .ok (.aload_n 1, 1) := by decide +kernel
theorem d_La_law_1002 : decode code 1002 = .ok (.aload_n 0, 1) := by decide +kernel
theorem d_La_law_1003 : decode code 1003 = .ok (.iload_n 3, 1) := by decide +kernel
theorem d_La_law_1004 : decode code 1004 = .ok (.iconst 1, 1) := by decide +kernel
theorem d_La_law_1005 : decode code 1005 = .ok (.iadd, 1) := by decide +kernel
theorem d_La_law_1006 : decode code 1006 = .ok (.iaload, 1) := by decide +kernel
theorem d_La_law_1007 : decode code 1007 = .ok (.aload_n 0, 1) := by decide +kernel
theorem d_La_law_1008 : decode code 1008 = .ok (.iload_n 3, 1) := by decide +kernel
theorem d_La_law_1009 : decode code 1009 = .ok (.iconst 2, 1) := by decide +kernel
theorem d_La_law_1010 : decode code 1010 = .ok (.iadd, 1) := by decide +kernel
theorem d_La_law_1011 : decode code 1011 = .ok (.iaload, 1) := by decide +kernel
theorem d_La_law_1012 : decode code 1012 = .ok (.aload_n 0, 1) := by decide +kernel
theorem d_La_law_1013 : decode code 1013 = .ok (.iload_n 3, 1) := by decide +kernel
theorem d_La_law_1014 : decode code 1014 = .ok (.iconst 3, 1) := by decide +kernel
theorem d_La_law_1015 : decode code 1015 = .ok (.iadd, 1) := by decide +kernel
theorem d_La_law_1016 : decode code 1016 = .ok (.iaload, 1) := by decide +kernel
theorem d_La_law_1017 : decode code 1017 = .ok (.invokevirtual 115, 3) := by decide +kernel
theorem d_La_law_1020 : decode code 1020 = .ok (.aload_n 2, 1) := by decide +kernel
theorem d_La_law_1021 : decode code 1021 = .ok (.aload_n 0, 1) := by decide +kernel
theorem d_La_law_1022 : decode code 1022 = .ok (.iload_n 3, 1) := by decide +kernel
theorem d_La_law_1023 : decode code 1023 = .ok (.iconst 1, 1) := by decide +kernel
theorem d_La_law_1024 : decode code 1024 = .ok (.iadd, 1) := by decide +kernel
theorem d_La_law_1025 : decode code 1025 = .ok (.iaload, 1) := by decide +kernel
theorem d_La_law_1026 : decode code 1026 = .ok (.aload_n 0, 1) := by decide +kernel
theorem d_La_law_1027 : decode code 1027 = .ok (.iload_n 3, 1) := by decide +kernel
theorem d_La_law_1028 : decode code 1028 = .ok (.iconst 2, 1) := by decide +kernel
theorem d_La_law_1029 : decode code 1029 = .ok (.iadd, 1) := by decide +kernel
theorem d_La_law_1030 : decode code 1030 = .ok (.iaload, 1) := by decide +kernel
theorem d_La_law_1031 : decode code 1031 = .ok (.aload_n 0, 1) := by decide +kernel
theorem d_La_law_1032 : decode code 1032 = .ok (.iload_n 3, 1) := by decide +kernel
theorem d_La_law_1033 : decode code 1033 = .ok (.iconst 3, 1) := by decide +kernel
theorem d_La_law_1034 : decode code 1034 = .ok (.iadd, 1) := by decide +kernel
theorem d_La_law_1035 : decode code 1035 = .ok (.iaload, 1) := by decide +kernel
theorem d_La_law_1036 : decode code 1036 = .ok (.invokevirtual 118, 3) := by decide +kernel
theorem d_La_law_1039 : decode code 1039 = .ok (.if_icmp .eq 306, 3) := by decide +kernel
theorem d_La_law_1042 : decode code 1042 = .ok (.iconst 0, 1) := by decide +kernel
theorem d_La_law_1043 : decode code 1043 = .ok (.ireturn, 1) := by decide +kernel
theorem d_La_law_1044 : decode code 1044 = .ok (.aload_n 1, 1) := by decide +kernel
theorem d_La_law_1045 : decode code 1045 = .ok (.aload_n 0, 1) := by decide +kernel
theorem d_La_law_1046 : decode code 1046 = .ok (.iload_n 3, 1) := by decide +kernel
theorem d_La_law_1047 : decode code 1047 = .ok (.iconst 1, 1) := by decide +kernel
theorem d_La_law_1048 : decode code 1048 = .ok (.iadd, 1) := by decide +kernel
theorem d_La_law_1049 : decode code 1049 = .ok (.iaload, 1) := by decide +kernel
theorem d_La_law_1050 : decode code 1050 = .ok (.invokevirtual 119, 3) := by decide +kernel
theorem d_La_law_1053 : decode code 1053 = .ok (.aload_n 2, 1) := by decide +kernel
theorem d_La_law_1054 : decode code 1054 = .ok (.aload_n 0, 1) := by decide +kernel
theorem d_La_law_1055 : decode code 1055 = .ok (.iload_n 3, 1) := by decide +kernel
theorem d_La_law_1056 : decode code 1056 = .ok (.iconst 1, 1) := by decide +kernel
theorem d_La_law_1057 : decode code 1057 = .ok (.iadd, 1) := by decide +kernel
theorem d_La_law_1058 : decode code 1058 = .ok (.iaload, 1) := by decide +kernel
theorem d_La_law_1059 : decode code 1059 = .ok (.invokevirtual 122, 3) := by decide +kernel
theorem d_La_law_1062 : decode code 1062 = .ok (.if_icmp .eq 283, 3) := by decide +kernel
theorem d_La_law_1065 : decode code 1065 = .ok (.iconst 0, 1) := by decide +kernel
theorem d_La_law_1066 : decode code 1066 = .ok (.ireturn, 1) := by decide +kernel
theorem d_La_law_1067 : decode code 1067 = .ok (.aload_n 1, 1) := by decide +kernel
theorem d_La_law_1068 : decode code 1068 = .ok (.aload_n 0, 1) := by decide +kernel
theorem d_La_law_1069 : decode code 1069 = .ok (.iload_n 3, 1) := by decide +kernel
theorem d_La_law_1070 : decode code 1070 = .ok (.iconst 1, 1) := by decide +kernel
theorem d_La_law_1071 : decode code 1071 = .ok (.iadd, 1) := by decide +kernel
theorem d_La_law_1072 : decode code 1072 = .ok (.iaload, 1) := by decide +kernel
theorem d_La_law_1073 : decode code 1073 = .ok (.aload_n 0, 1) := by decide +kernel
theorem d_La_law_1074 : decode code 1074 = .ok (.iload_n 3, 1) := by decide +kernel
theorem d_La_law_1075 : decode code 1075 = .ok (.iconst 2, 1) := by decide +kernel
theorem d_La_law_1076 : decode code 1076 = .ok (.iadd, 1) := by decide +kernel
theorem d_La_law_1077 : decode code 1077 = .ok (.iaload, 1) := by decide +kernel
theorem d_La_law_1078 : decode code 1078 = .ok (.aload_n 0, 1) := by decide +kernel
theorem d_La_law_1079 : decode code 1079 = .ok (.iload_n 3, 1) := by decide +kernel
theorem d_La_law_1080 : decode code 1080 = .ok (.iconst 3, 1) := by decide +kernel
theorem d_La_law_1081 : decode code 1081 = .ok (.iadd, 1) := by decide +kernel
theorem d_La_law_1082 : decode code 1082 = .ok (.iaload, 1) := by decide +kernel
theorem d_La_law_1083 : decode code 1083 = .ok (.invokevirtual 123, 3) := by decide +kernel
theorem d_La_law_1086 : decode code 1086 = .ok (.aload_n 2, 1) := by decide +kernel
theorem d_La_law_1087 : decode code 1087 = .ok (.aload_n 0, 1) := by decide +kernel
theorem d_La_law_1088 : decode code 1088 = .ok (.iload_n 3, 1) := by decide +kernel
theorem d_La_law_1089 : decode code 1089 = .ok (.iconst 1, 1) := by decide +kernel
theorem d_La_law_1090 : decode code 1090 = .ok (.iadd, 1) := by decide +kernel
theorem d_La_law_1091 : decode code 1091 = .ok (.iaload, 1) := by decide +kernel
theorem d_La_law_1092 : decode code 1092 = .ok (.aload_n 0, 1) := by decide +kernel
theorem d_La_law_1093 : decode code 1093 = .ok (.iload_n 3, 1) := by decide +kernel
theorem d_La_law_1094 : decode code 1094 = .ok (.iconst 2, 1) := by decide +kernel
theorem d_La_law_1095 : decode code 1095 = .ok (.iadd, 1) := by decide +kernel
theorem d_La_law_1096 : decode code 1096 = .ok (.iaload, 1) := by decide +kernel
theorem d_La_law_1097 : decode code 1097 = .ok (.aload_n 0, 1) := by decide +kernel
theorem d_La_law_1098 : decode code 1098 = .ok (.iload_n 3, 1) := by decide +kernel
theorem d_La_law_1099 : decode code 1099 = .ok (.iconst 3, 1) := by decide +kernel
theorem d_La_law_1100 : decode code 1100 = .ok (.iadd, 1) := by decide +kernel
theorem d_La_law_1101 : decode code 1101 = .ok (.iaload, 1) := by decide +kernel
theorem d_La_law_1102 : decode code 1102 = .ok (.invokevirtual 126, 3) := by decide +kernel
theorem d_La_law_1105 : decode code 1105 = .ok (.if_icmp .eq 240, 3) := by decide +kernel
theorem d_La_law_1108 : decode code 1108 = .ok (.iconst 0, 1) := by decide +kernel
theorem d_La_law_1109 : decode code 1109 = .ok (.ireturn, 1) := by decide +kernel
theorem d_La_law_1110 : decode code 1110 = .ok (.aload_n 1, 1) := by decide +kernel
theorem d_La_law_1111 : decode code 1111 = .ok (.aload_n 0, 1) := by decide +kernel
theorem d_La_law_1112 : decode code 1112 = .ok (.iload_n 3, 1) := by decide +kernel
theorem d_La_law_1113 : decode code 1113 = .ok (.iconst 1, 1) := by decide +kernel
theorem d_La_law_1114 : decode code 1114 = .ok (.iadd, 1) := by decide +kernel
theorem d_La_law_1115 : decode code 1115 = .ok (.iaload, 1) := by decide +kernel
theorem d_La_law_1116 : decode code 1116 = .ok (.aload_n 0, 1) := by decide +kernel
theorem d_La_law_1117 : decode code 1117 = .ok (.iload_n 3, 1) := by decide +kernel
theorem d_La_law_1118 : decode code 1118 = .ok (.iconst 2, 1) := by decide +kernel
theorem d_La_law_1119 : decode code 1119 = .ok (.iadd, 1) := by decide +kernel
theorem d_La_law_1120 : decode code 1120 = .ok (.iaload, 1) := by decide +kernel
theorem d_La_law_1121 : decode code 1121 = .ok (.aload_n 0, 1) := by decide +kernel
theorem d_La_law_1122 : decode code 1122 = .ok (.iload_n 3, 1) := by decide +kernel
theorem d_La_law_1123 : decode code 1123 = .ok (.iconst 3, 1) := by decide +kernel
theorem d_La_law_1124 : decode code 1124 = .ok (.iadd, 1) := by decide +kernel
theorem d_La_law_1125 : decode code 1125 = .ok (.iaload, 1) := by decide +kernel
theorem d_La_law_1126 : decode code 1126 = .ok (.invokevirtual 127, 3) := by decide +kernel
theorem d_La_law_1129 : decode code 1129 = .ok (.aload_n 2, 1) := by decide +kernel
theorem d_La_law_1130 : decode code 1130 = .ok (.aload_n 0, 1) := by decide +kernel
theorem d_La_law_1131 : decode code 1131 = .ok (.iload_n 3, 1) := by decide +kernel
theorem d_La_law_1132 : decode code 1132 = .ok (.iconst 1, 1) := by decide +kernel
theorem d_La_law_1133 : decode code 1133 = .ok (.iadd, 1) := by decide +kernel
theorem d_La_law_1134 : decode code 1134 = .ok (.iaload, 1) := by decide +kernel
theorem d_La_law_1135 : decode code 1135 = .ok (.aload_n 0, 1) := by decide +kernel
theorem d_La_law_1136 : decode code 1136 = .ok (.iload_n 3, 1) := by decide +kernel
theorem d_La_law_1137 : decode code 1137 = .ok (.iconst 2, 1) := by decide +kernel
theorem d_La_law_1138 : decode code 1138 = .ok (.iadd, 1) := by decide +kernel
theorem d_La_law_1139 : decode code 1139 = .ok (.iaload, 1) := by decide +kernel
theorem d_La_law_1140 : decode code 1140 = .ok (.aload_n 0, 1) := by decide +kernel
theorem d_La_law_1141 : decode code 1141 = .ok (.iload_n 3, 1) := by decide +kernel
theorem d_La_law_1142 : decode code 1142 = .ok (.iconst 3, 1) := by decide +kernel
theorem d_La_law_1143 : decode code 1143 = .ok (.iadd, 1) := by decide +kernel
theorem d_La_law_1144 : decode code 1144 = .ok (.iaload, 1) := by decide +kernel
theorem d_La_law_1145 : decode code 1145 = .ok (.invokevirtual 131, 3) := by decide +kernel
theorem d_La_law_1148 : decode code 1148 = .ok (.lcmp, 1) := by decide +kernel
theorem d_La_law_1149 : decode code 1149 = .ok (.ifCond .eq 196, 3) := by decide +kernel
theorem d_La_law_1152 : decode code 1152 = .ok (.iconst 0, 1) := by decide +kernel
theorem d_La_law_1153 : decode code 1153 = .ok (.ireturn, 1) := by decide +kernel
theorem d_La_law_1154 : decode code 1154 = .ok (.aload_n 1, 1) := by decide +kernel
theorem d_La_law_1155 : decode code 1155 = .ok (.aload_n 0, 1) := by decide +kernel
theorem d_La_law_1156 : decode code 1156 = .ok (.iload_n 3, 1) := by decide +kernel
theorem d_La_law_1157 : decode code 1157 = .ok (.iconst 1, 1) := by decide +kernel
theorem d_La_law_1158 : decode code 1158 = .ok (.iadd, 1) := by decide +kernel
theorem d_La_law_1159 : decode code 1159 = .ok (.iaload, 1) := by decide +kernel
theorem d_La_law_1160 : decode code 1160 = .ok (.aload_n 0, 1) := by decide +kernel
theorem d_La_law_1161 : decode code 1161 = .ok (.iload_n 3, 1) := by decide +kernel
theorem d_La_law_1162 : decode code 1162 = .ok (.iconst 2, 1) := by decide +kernel
theorem d_La_law_1163 : decode code 1163 = .ok (.iadd, 1) := by decide +kernel
theorem d_La_law_1164 : decode code 1164 = .ok (.iaload, 1) := by decide +kernel
theorem d_La_law_1165 : decode code 1165 = .ok (.aload_n 0, 1) := by decide +kernel
theorem d_La_law_1166 : decode code 1166 = .ok (.iload_n 3, 1) := by decide +kernel
theorem d_La_law_1167 : decode code 1167 = .ok (.iconst 3, 1) := by decide +kernel
theorem d_La_law_1168 : decode code 1168 = .ok (.iadd, 1) := by decide +kernel
theorem d_La_law_1169 : decode code 1169 = .ok (.iaload, 1) := by decide +kernel
theorem d_La_law_1170 : decode code 1170 = .ok (.aload_n 0, 1) := by decide +kernel
theorem d_La_law_1171 : decode code 1171 = .ok (.iload_n 3, 1) := by decide +kernel
theorem d_La_law_1172 : decode code 1172 = .ok (.iconst 4, 1) := by decide +kernel
theorem d_La_law_1173 : decode code 1173 = .ok (.iadd, 1) := by decide +kernel
theorem d_La_law_1174 : decode code 1174 = .ok (.iaload, 1) := by decide +kernel
theorem d_La_law_1175 : decode code 1175 = .ok (.aload_n 0, 1) := by decide +kernel
theorem d_La_law_1176 : decode code 1176 = .ok (.iload_n 3, 1) := by decide +kernel
theorem d_La_law_1177 : decode code 1177 = .ok (.iconst 5, 1) := by decide +kernel
theorem d_La_law_1178 : decode code 1178 = .ok (.iadd, 1) := by decide +kernel
theorem d_La_law_1179 : decode code 1179 = .ok (.iaload, 1) := by decide +kernel
theorem d_La_law_1180 : decode code 1180 = .ok (.invokevirtual 132, 3) := by decide +kernel
theorem d_La_law_1183 : decode code 1183 = .ok (.aload_n 2, 1) := by decide +kernel
theorem d_La_law_1184 : decode code 1184 = .ok (.aload_n 0, 1) := by decide +kernel
theorem d_La_law_1185 : decode code 1185 = .ok (.iload_n 3, 1) := by decide +kernel
theorem d_La_law_1186 : decode code 1186 = .ok (.iconst 1, 1) := by decide +kernel
theorem d_La_law_1187 : decode code 1187 = .ok (.iadd, 1) := by decide +kernel
theorem d_La_law_1188 : decode code 1188 = .ok (.iaload, 1) := by decide +kernel
theorem d_La_law_1189 : decode code 1189 = .ok (.aload_n 0, 1) := by decide +kernel
theorem d_La_law_1190 : decode code 1190 = .ok (.iload_n 3, 1) := by decide +kernel
theorem d_La_law_1191 : decode code 1191 = .ok (.iconst 2, 1) := by decide +kernel
theorem d_La_law_1192 : decode code 1192 = .ok (.iadd, 1) := by decide +kernel
theorem d_La_law_1193 : decode code 1193 = .ok (.iaload, 1) := by decide +kernel
theorem d_La_law_1194 : decode code 1194 = .ok (.aload_n 0, 1) := by decide +kernel
theorem d_La_law_1195 : decode code 1195 = .ok (.iload_n 3, 1) := by decide +kernel
theorem d_La_law_1196 : decode code 1196 = .ok (.iconst 3, 1) := by decide +kernel
theorem d_La_law_1197 : decode code 1197 = .ok (.iadd, 1) := by decide +kernel
theorem d_La_law_1198 : decode code 1198 = .ok (.iaload, 1) := by decide +kernel
theorem d_La_law_1199 : decode code 1199 = .ok (.aload_n 0, 1) := by decide +kernel
theorem d_La_law_1200 : decode code 1200 = .ok (.iload_n 3, 1) := by decide +kernel
theorem d_La_law_1201 : decode code 1201 = .ok (.iconst 4, 1) := by decide +kernel
theorem d_La_law_1202 : decode code 1202 = .ok (.iadd, 1) := by decide +kernel
theorem d_La_law_1203 : decode code 1203 = .ok (.iaload, 1) := by decide +kernel
theorem d_La_law_1204 : decode code 1204 = .ok (.aload_n 0, 1) := by decide +kernel
theorem d_La_law_1205 : decode code 1205 = .ok (.iload_n 3, 1) := by decide +kernel
theorem d_La_law_1206 : decode code 1206 = .ok (.iconst 5, 1) := by decide +kernel
theorem d_La_law_1207 : decode code 1207 = .ok (.iadd, 1) := by decide +kernel
theorem d_La_law_1208 : decode code 1208 = .ok (.iaload, 1) := by decide +kernel
theorem d_La_law_1209 : decode code 1209 = .ok (.invokevirtual 135, 3) := by decide +kernel
theorem d_La_law_1212 : decode code 1212 = .ok (.if_icmp .eq 133, 3) := by decide +kernel
theorem d_La_law_1215 : decode code 1215 = .ok (.iconst 0, 1) := by decide +kernel
theorem d_La_law_1216 : decode code 1216 = .ok (.ireturn, 1) := by decide +kernel
theorem d_La_law_1217 : decode code 1217 = .ok (.aload_n 1, 1) := by decide +kernel
theorem d_La_law_1218 : decode code 1218 = .ok (.aload_n 0, 1) := by decide +kernel
theorem d_La_law_1219 : decode code 1219 = .ok (.iload_n 3, 1) := by decide +kernel
theorem d_La_law_1220 : decode code 1220 = .ok (.iconst 1, 1) := by decide +kernel
theorem d_La_law_1221 : decode code 1221 = .ok (.iadd, 1) := by decide +kernel
theorem d_La_law_1222 : decode code 1222 = .ok (.iaload, 1) := by decide +kernel
theorem d_La_law_1223 : decode code 1223 = .ok (.invokevirtual 136, 3) := by decide +kernel
theorem d_La_law_1226 : decode code 1226 = .ok (.aload_n 2, 1) := by decide +kernel
theorem d_La_law_1227 : decode code 1227 = .ok (.aload_n 0, 1) := by decide +kernel
theorem d_La_law_1228 : decode code 1228 = .ok (.iload_n 3, 1) := by decide +kernel
theorem d_La_law_1229 : decode code 1229 = .ok (.iconst 1, 1) := by decide +kernel
theorem d_La_law_1230 : decode code 1230 = .ok (.iadd, 1) := by decide +kernel
theorem d_La_law_1231 : decode code 1231 = .ok (.iaload, 1) := by decide +kernel
theorem d_La_law_1232 : decode code 1232 = .ok (.invokevirtual 139, 3) := by decide +kernel
theorem d_La_law_1235 : decode code 1235 = .ok (.if_icmp .eq 110, 3) := by decide +kernel
theorem d_La_law_1238 : decode code 1238 = .ok (.iconst 0, 1) := by decide +kernel
theorem d_La_law_1239 : decode code 1239 = .ok (.ireturn, 1) := by decide +kernel
theorem d_La_law_1240 : decode code 1240 = .ok (.aload_n 1, 1) := by decide +kernel
theorem d_La_law_1241 : decode code 1241 = .ok (.aload_n 0, 1) := by decide +kernel
theorem d_La_law_1242 : decode code 1242 = .ok (.iload_n 3, 1) := by decide +kernel
theorem d_La_law_1243 : decode code 1243 = .ok (.iconst 1, 1) := by decide +kernel
theorem d_La_law_1244 : decode code 1244 = .ok (.iadd, 1) := by decide +kernel
theorem d_La_law_1245 : decode code 1245 = .ok (.iaload, 1) := by decide +kernel
theorem d_La_law_1246 : decode code 1246 = .ok (.invokevirtual 140, 3) := by decide +kernel
theorem d_La_law_1249 : decode code 1249 = .ok (.aload_n 2, 1) := by decide +kernel
theorem d_La_law_1250 : decode code 1250 = .ok (.aload_n 0, 1) := by decide +kernel
theorem d_La_law_1251 : decode code 1251 = .ok (.iload_n 3, 1) := by decide +kernel
theorem d_La_law_1252 : decode code 1252 = .ok (.iconst 1, 1) := by decide +kernel
theorem d_La_law_1253 : decode code 1253 = .ok (.iadd, 1) := by decide +kernel
theorem d_La_law_1254 : decode code 1254 = .ok (.iaload, 1) := by decide +kernel
theorem d_La_law_1255 : decode code 1255 = .ok (.invokevirtual 143, 3) := by decide +kernel
theorem d_La_law_1258 : decode code 1258 = .ok (.if_icmp .eq 87, 3) := by decide +kernel
theorem d_La_law_1261 : decode code 1261 = .ok (.iconst 0, 1) := by decide +kernel
theorem d_La_law_1262 : decode code 1262 = .ok (.ireturn, 1) := by decide +kernel
theorem d_La_law_1263 : decode code 1263 = .ok (.aload_n 1, 1) := by decide +kernel
theorem d_La_law_1264 : decode code 1264 = .ok (.aload_n 0, 1) := by decide +kernel
theorem d_La_law_1265 : decode code 1265 = .ok (.iload_n 3, 1) := by decide +kernel
theorem d_La_law_1266 : decode code 1266 = .ok (.iconst 1, 1) := by decide +kernel
theorem d_La_law_1267 : decode code 1267 = .ok (.iadd, 1) := by decide +kernel
theorem d_La_law_1268 : decode code 1268 = .ok (.iaload, 1) := by decide +kernel
theorem d_La_law_1269 : decode code 1269 = .ok (.aload_n 0, 1) := by decide +kernel
theorem d_La_law_1270 : decode code 1270 = .ok (.iload_n 3, 1) := by decide +kernel
theorem d_La_law_1271 : decode code 1271 = .ok (.iconst 2, 1) := by decide +kernel
theorem d_La_law_1272 : decode code 1272 = .ok (.iadd, 1) := by decide +kernel
theorem d_La_law_1273 : decode code 1273 = .ok (.iaload, 1) := by decide +kernel
theorem d_La_law_1274 : decode code 1274 = .ok (.invokevirtual 144, 3) := by decide +kernel
theorem d_La_law_1277 : decode code 1277 = .ok (.aload_n 2, 1) := by decide +kernel
theorem d_La_law_1278 : decode code 1278 = .ok (.aload_n 0, 1) := by decide +kernel
theorem d_La_law_1279 : decode code 1279 = .ok (.iload_n 3, 1) := by decide +kernel
theorem d_La_law_1280 : decode code 1280 = .ok (.iconst 1, 1) := by decide +kernel
theorem d_La_law_1281 : decode code 1281 = .ok (.iadd, 1) := by decide +kernel
theorem d_La_law_1282 : decode code 1282 = .ok (.iaload, 1) := by decide +kernel
theorem d_La_law_1283 : decode code 1283 = .ok (.aload_n 0, 1) := by decide +kernel
theorem d_La_law_1284 : decode code 1284 = .ok (.iload_n 3, 1) := by decide +kernel
theorem d_La_law_1285 : decode code 1285 = .ok (.iconst 2, 1) := by decide +kernel
theorem d_La_law_1286 : decode code 1286 = .ok (.iadd, 1) := by decide +kernel
theorem d_La_law_1287 : decode code 1287 = .ok (.iaload, 1) := by decide +kernel
theorem d_La_law_1288 : decode code 1288 = .ok (.invokevirtual 147, 3) := by decide +kernel
theorem d_La_law_1291 : decode code 1291 = .ok (.if_icmp .eq 54, 3) := by decide +kernel
theorem d_La_law_1294 : decode code 1294 = .ok (.iconst 0, 1) := by decide +kernel
theorem d_La_law_1295 : decode code 1295 = .ok (.ireturn, 1) := by decide +kernel
theorem d_La_law_1296 : decode code 1296 = .ok (.aload_n 1, 1) := by decide +kernel
theorem d_La_law_1297 : decode code 1297 = .ok (.invokevirtual 148, 3) := by decide +kernel
theorem d_La_law_1300 : decode code 1300 = .ok (.aload_n 2, 1) := by decide +kernel
theorem d_La_law_1301 : decode code 1301 = .ok (.invokevirtual 152, 3) := by decide +kernel
theorem d_La_law_1304 : decode code 1304 = .ok (.if_icmp .eq 41, 3) := by decide +kernel
theorem d_La_law_1307 : decode code 1307 = .ok (.iconst 0, 1) := by decide +kernel
theorem d_La_law_1308 : decode code 1308 = .ok (.ireturn, 1) := by decide +kernel
theorem d_La_law_1309 : decode code 1309 = .ok (.aload_n 1, 1) := by decide +kernel
theorem d_La_law_1310 : decode code 1310 = .ok (.invokevirtual 153, 3) := by decide +kernel
theorem d_La_law_1313 : decode code 1313 = .ok (.aload_n 2, 1) := by decide +kernel
theorem d_La_law_1314 : decode code 1314 = .ok (.invokevirtual 156, 3) := by decide +kernel
theorem d_La_law_1317 : decode code 1317 = .ok (.if_icmp .eq 28, 3) := by decide +kernel
theorem d_La_law_1320 : decode code 1320 = .ok (.iconst 0, 1) := by decide +kernel
theorem d_La_law_1321 : decode code 1321 = .ok (.ireturn, 1) := by decide +kernel
theorem d_La_law_1322 : decode code 1322 = .ok (.aload_n 1, 1) := by decide +kernel
theorem d_La_law_1323 : decode code 1323 = .ok (.aload_n 0, 1) := by decide +kernel
theorem d_La_law_1324 : decode code 1324 = .ok (.iload_n 3, 1) := by decide +kernel
theorem d_La_law_1325 : decode code 1325 = .ok (.iconst 1, 1) := by decide +kernel
theorem d_La_law_1326 : decode code 1326 = .ok (.iadd, 1) := by decide +kernel
theorem d_La_law_1327 : decode code 1327 = .ok (.iaload, 1) := by decide +kernel
theorem d_La_law_1328 : decode code 1328 = .ok (.invokevirtual 157, 3) := by decide +kernel
theorem d_La_law_1331 : decode code 1331 = .ok (.aload_n 2, 1) := by decide +kernel
theorem d_La_law_1332 : decode code 1332 = .ok (.aload_n 0, 1) := by decide +kernel
theorem d_La_law_1333 : decode code 1333 = .ok (.iload_n 3, 1) := by decide +kernel
theorem d_La_law_1334 : decode code 1334 = .ok (.iconst 1, 1) := by decide +kernel
theorem d_La_law_1335 : decode code 1335 = .ok (.iadd, 1) := by decide +kernel
theorem d_La_law_1336 : decode code 1336 = .ok (.iaload, 1) := by decide +kernel
theorem d_La_law_1337 : decode code 1337 = .ok (.invokevirtual 160, 3) := by decide +kernel
theorem d_La_law_1340 : decode code 1340 = .ok (.if_icmp .eq 5, 3) := by decide +kernel
theorem d_La_law_1343 : decode code 1343 = .ok (.iconst 0, 1) := by decide +kernel
theorem d_La_law_1344 : decode code 1344 = .ok (.ireturn, 1) := by decide +kernel
theorem d_La_law_1345 : decode code 1345 = .ok (.iinc 3 6, 3) := by decide +kernel
theorem d_La_law_1348 : decode code 1348 = .ok (.goto (-1330), 3) := by decide +kernel
theorem d_La_law_1351 : decode code 1351 = .ok (.iconst 1, 1) := by decide +kernel
theorem d_La_law_1352 : decode code 1352 = .ok (.ireturn, 1) := by decide +kernel
theorem sx_in {L t c : Nat} {i : Int32} (ht : 6 * t + 6 ≤ L) (hL : L ≤ 384) (hc : c < 6) (hi : i = i3 c) : vp_in (i3 (6 * t) + i) L := by
  subst hi
  rw [← i3_add]
  exact (IX.of (k := 6 * t + c) (n := L) (by omega) (by omega)).vp
theorem lc_same (v : Int64) : lg_cmp v v = 0 := by
  unfold lg_cmp; simp
abbrev loL (t : Nat) : List (Option AV) := [some (vR 1), some (vR 2), some (vR 36), some (vI (i3 (6 * t)))]
abbrev CLw (X : CX) : Prop := CO X "LastJarsLaw" code 4 20 600000 7302250 2 0
theorem g_len : SH.length ≤ 2 + 600000 := by decide
theorem g_siz : SZ ≤ 0 + 7302250 := by decide +kernel
