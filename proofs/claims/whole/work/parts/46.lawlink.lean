theorem dL_law_0 : decode cL_law 0 = .ok (.new 7, 3) := by decide +kernel
theorem dL_law_3 : decode cL_law 3 = .ok (.dup, 1) := by decide +kernel
theorem dL_law_4 : decode cL_law 4 = .ok (.invokespecial 9, 3) := by decide +kernel
theorem dL_law_7 : decode cL_law 7 = .ok (.astore_n 1, 1) := by decide +kernel
theorem dL_law_8 : decode cL_law 8 = .ok (.new 10, 3) := by decide +kernel
theorem dL_law_11 : decode cL_law 11 = .ok (.dup, 1) := by decide +kernel
theorem dL_law_12 : decode cL_law 12 = .ok (.invokespecial 12, 3) := by decide +kernel
theorem dL_law_15 : decode cL_law 15 = .ok (.astore_n 2, 1) := by decide +kernel
theorem dL_law_16 : decode cL_law 16 = .ok (.iconst 0, 1) := by decide +kernel
theorem dL_law_17 : decode cL_law 17 = .ok (.istore_n 3, 1) := by decide +kernel
theorem dL_law_18 : decode cL_law 18 = .ok (.iload_n 3, 1) := by decide +kernel
theorem dL_law_19 : decode cL_law 19 = .ok (.aload_n 0, 1) := by decide +kernel
theorem dL_law_20 : decode cL_law 20 = .ok (.arraylength, 1) := by decide +kernel
theorem dL_law_21 : decode cL_law 21 = .ok (.bipush 6, 2) := by decide +kernel
theorem dL_law_23 : decode cL_law 23 = .ok (.isub, 1) := by decide +kernel
theorem dL_law_24 : decode cL_law 24 = .ok (.if_icmp .gt 1281, 3) := by decide +kernel
theorem dL_law_27 : decode cL_law 27 = .ok (.aload_n 0, 1) := by decide +kernel
theorem dL_law_28 : decode cL_law 28 = .ok (.iload_n 3, 1) := by decide +kernel
theorem dL_law_29 : decode cL_law 29 = .ok (.iaload, 1) := by decide +kernel
theorem dL_law_30 : decode cL_law 30 = .ok (.bipush 63, 2) := by decide +kernel
theorem dL_law_32 : decode cL_law 32 = .ok (.iand, 1) := by decide +kernel
theorem dL_law_33 : decode cL_law 33 = .ok (.tableswitch 1266 0 34 #[155, 178, 221, 264, 297, 320, 383, 406, 429, 452, 485, 518, 551, 574, 627, 650, 673, 706, 739, 772, 795, 818, 841, 874, 917, 970, 1013, 1046, 1059, 1102, 1125, 1148, 1191, 1204, 1243], 155) := by decide +kernel
theorem dL_law_188 : decode cL_law 188 = .ok (.aload_n 1, 1) := by decide +kernel
theorem dL_law_189 : decode cL_law 189 = .ok (.aload_n 0, 1) := by decide +kernel
theorem dL_law_190 : decode cL_law 190 = .ok (.iload_n 3, 1) := by decide +kernel
theorem dL_law_191 : decode cL_law 191 = .ok (.iconst 1, 1) := by decide +kernel
theorem dL_law_192 : decode cL_law 192 = .ok (.iadd, 1) := by decide +kernel
theorem dL_law_193 : decode cL_law 193 = .ok (.iaload, 1) := by decide +kernel
theorem dL_law_194 : decode cL_law 194 = .ok (.invokevirtual 13, 3) := by decide +kernel
theorem dL_law_197 : decode cL_law 197 = .ok (.aload_n 2, 1) := by decide +kernel
theorem dL_law_198 : decode cL_law 198 = .ok (.aload_n 0, 1) := by decide +kernel
theorem dL_law_199 : decode cL_law 199 = .ok (.iload_n 3, 1) := by decide +kernel
theorem dL_law_200 : decode cL_law 200 = .ok (.iconst 1, 1) := by decide +kernel
theorem dL_law_201 : decode cL_law 201 = .ok (.iadd, 1) := by decide +kernel
theorem dL_law_202 : decode cL_law 202 = .ok (.iaload, 1) := by decide +kernel
theorem dL_law_203 : decode cL_law 203 = .ok (.invokevirtual 17, 3) := by decide +kernel
theorem dL_law_206 : decode cL_law 206 = .ok (.if_icmp .eq 1093, 3) := by decide +kernel
theorem dL_law_209 : decode cL_law 209 = .ok (.iconst 0, 1) := by decide +kernel
theorem dL_law_210 : decode cL_law 210 = .ok (.ireturn, 1) := by decide +kernel
theorem dL_law_211 : decode cL_law 211 = .ok (.aload_n 1, 1) := by decide +kernel
theorem dL_law_212 : decode cL_law 212 = .ok (.aload_n 0, 1) := by decide +kernel
theorem dL_law_213 : decode cL_law 213 = .ok (.iload_n 3, 1) := by decide +kernel
theorem dL_law_214 : decode cL_law 214 = .ok (.iconst 1, 1) := by decide +kernel
theorem dL_law_215 : decode cL_law 215 = .ok (.iadd, 1) := by decide +kernel
theorem dL_law_216 : decode cL_law 216 = .ok (.iaload, 1) := by decide +kernel
theorem dL_law_217 : decode cL_law 217 = .ok (.aload_n 0, 1) := by decide +kernel
theorem dL_law_218 : decode cL_law 218 = .ok (.iload_n 3, 1) := by decide +kernel
theorem dL_law_219 : decode cL_law 219 = .ok (.iconst 2, 1) := by decide +kernel
theorem dL_law_220 : decode cL_law 220 = .ok (.iadd, 1) := by decide +kernel
theorem dL_law_221 : decode cL_law 221 = .ok (.iaload, 1) := by decide +kernel
theorem dL_law_222 : decode cL_law 222 = .ok (.aload_n 0, 1) := by decide +kernel
theorem dL_law_223 : decode cL_law 223 = .ok (.iload_n 3, 1) := by decide +kernel
theorem dL_law_224 : decode cL_law 224 = .ok (.iconst 3, 1) := by decide +kernel
theorem dL_law_225 : decode cL_law 225 = .ok (.iadd, 1) := by decide +kernel
theorem dL_law_226 : decode cL_law 226 = .ok (.iaload, 1) := by decide +kernel
theorem dL_law_227 : decode cL_law 227 = .ok (.invokevirtual 18, 3) := by decide +kernel
theorem dL_law_230 : decode cL_law 230 = .ok (.aload_n 2, 1) := by decide +kernel
theorem dL_law_231 : decode cL_law 231 = .ok (.aload_n 0, 1) := by decide +kernel
theorem dL_law_232 : decode cL_law 232 = .ok (.iload_n 3, 1) := by decide +kernel
theorem dL_law_233 : decode cL_law 233 = .ok (.iconst 1, 1) := by decide +kernel
theorem dL_law_234 : decode cL_law 234 = .ok (.iadd, 1) := by decide +kernel
theorem dL_law_235 : decode cL_law 235 = .ok (.iaload, 1) := by decide +kernel
theorem dL_law_236 : decode cL_law 236 = .ok (.aload_n 0, 1) := by decide +kernel
theorem dL_law_237 : decode cL_law 237 = .ok (.iload_n 3, 1) := by decide +kernel
theorem dL_law_238 : decode cL_law 238 = .ok (.iconst 2, 1) := by decide +kernel
theorem dL_law_239 : decode cL_law 239 = .ok (.iadd, 1) := by decide +kernel
theorem dL_law_240 : decode cL_law 240 = .ok (.iaload, 1) := by decide +kernel
theorem dL_law_241 : decode cL_law 241 = .ok (.aload_n 0, 1) := by decide +kernel
theorem dL_law_242 : decode cL_law 242 = .ok (.iload_n 3, 1) := by decide +kernel
theorem dL_law_243 : decode cL_law 243 = .ok (.iconst 3, 1) := by decide +kernel
theorem dL_law_244 : decode cL_law 244 = .ok (.iadd, 1) := by decide +kernel
theorem dL_law_245 : decode cL_law 245 = .ok (.iaload, 1) := by decide +kernel
theorem dL_law_246 : decode cL_law 246 = .ok (.invokevirtual 22, 3) := by decide +kernel
theorem dL_law_249 : decode cL_law 249 = .ok (.if_icmp .eq 1050, 3) := by decide +kernel
theorem dL_law_252 : decode cL_law 252 = .ok (.iconst 0, 1) := by decide +kernel
theorem dL_law_253 : decode cL_law 253 = .ok (.ireturn, 1) := by decide +kernel
theorem dL_law_254 : decode cL_law 254 = .ok (.aload_n 1, 1) := by decide +kernel
theorem dL_law_255 : decode cL_law 255 = .ok (.aload_n 0, 1) := by decide +kernel
theorem dL_law_256 : decode cL_law 256 = .ok (.iload_n 3, 1) := by decide +kernel
theorem dL_law_257 : decode cL_law 257 = .ok (.iconst 1, 1) := by decide +kernel
theorem dL_law_258 : decode cL_law 258 = .ok (.iadd, 1) := by decide +kernel
theorem dL_law_259 : decode cL_law 259 = .ok (.iaload, 1) := by decide +kernel
theorem dL_law_260 : decode cL_law 260 = .ok (.aload_n 0, 1) := by decide +kernel
theorem dL_law_261 : decode cL_law 261 = .ok (.iload_n 3, 1) := by decide +kernel
theorem dL_law_262 : decode cL_law 262 = .ok (.iconst 2, 1) := by decide +kernel
theorem dL_law_263 : decode cL_law 263 = .ok (.iadd, 1) := by decide +kernel
theorem dL_law_264 : decode cL_law 264 = .ok (.iaload, 1) := by decide +kernel
theorem dL_law_265 : decode cL_law 265 = .ok (.aload_n 0, 1) := by decide +kernel
theorem dL_law_266 : decode cL_law 266 = .ok (.iload_n 3, 1) := by decide +kernel
theorem dL_law_267 : decode cL_law 267 = .ok (.iconst 3, 1) := by decide +kernel
theorem dL_law_268 : decode cL_law 268 = .ok (.iadd, 1) := by decide +kernel
theorem dL_law_269 : decode cL_law 269 = .ok (.iaload, 1) := by decide +kernel
theorem dL_law_270 : decode cL_law 270 = .ok (.invokevirtual 23, 3) := by decide +kernel
theorem dL_law_273 : decode cL_law 273 = .ok (.aload_n 2, 1) := by decide +kernel
theorem dL_law_274 : decode cL_law 274 = .ok (.aload_n 0, 1) := by decide +kernel
theorem dL_law_275 : decode cL_law 275 = .ok (.iload_n 3, 1) := by decide +kernel
theorem dL_law_276 : decode cL_law 276 = .ok (.iconst 1, 1) := by decide +kernel
theorem dL_law_277 : decode cL_law 277 = .ok (.iadd, 1) := by decide +kernel
theorem dL_law_278 : decode cL_law 278 = .ok (.iaload, 1) := by decide +kernel
theorem dL_law_279 : decode cL_law 279 = .ok (.aload_n 0, 1) := by decide +kernel
theorem dL_law_280 : decode cL_law 280 = .ok (.iload_n 3, 1) := by decide +kernel
theorem dL_law_281 : decode cL_law 281 = .ok (.iconst 2, 1) := by decide +kernel
theorem dL_law_282 : decode cL_law 282 = .ok (.iadd, 1) := by decide +kernel
theorem dL_law_283 : decode cL_law 283 = .ok (.iaload, 1) := by decide +kernel
theorem dL_law_284 : decode cL_law 284 = .ok (.aload_n 0, 1) := by decide +kernel
theorem dL_law_285 : decode cL_law 285 = .ok (.iload_n 3, 1) := by decide +kernel
theorem dL_law_286 : decode cL_law 286 = .ok (.iconst 3, 1) := by decide +kernel
theorem dL_law_287 : decode cL_law 287 = .ok (.iadd, 1) := by decide +kernel
theorem dL_law_288 : decode cL_law 288 = .ok (.iaload, 1) := by decide +kernel
theorem dL_law_289 : decode cL_law 289 = .ok (.invokevirtual 27, 3) := by decide +kernel
theorem dL_law_292 : decode cL_law 292 = .ok (.if_icmp .eq 1007, 3) := by decide +kernel
theorem dL_law_295 : decode cL_law 295 = .ok (.iconst 0, 1) := by decide +kernel
theorem dL_law_296 : decode cL_law 296 = .ok (.ireturn, 1) := by decide +kernel
theorem dL_law_297 : decode cL_law 297 = .ok (.aload_n 1, 1) := by decide +kernel
theorem dL_law_298 : decode cL_law 298 = .ok (.aload_n 0, 1) := by decide +kernel
theorem dL_law_299 : decode cL_law 299 = .ok (.iload_n 3, 1) := by decide +kernel
theorem dL_law_300 : decode cL_law 300 = .ok (.iconst 1, 1) := by decide +kernel
theorem dL_law_301 : decode cL_law 301 = .ok (.iadd, 1) := by decide +kernel
theorem dL_law_302 : decode cL_law 302 = .ok (.iaload, 1) := by decide +kernel
theorem dL_law_303 : decode cL_law 303 = .ok (.aload_n 0, 1) := by decide +kernel
theorem dL_law_304 : decode cL_law 304 = .ok (.iload_n 3, 1) := by decide +kernel
theorem dL_law_305 : decode cL_law 305 = .ok (.iconst 2, 1) := by decide +kernel
theorem dL_law_306 : decode cL_law 306 = .ok (.iadd, 1) := by decide +kernel
theorem dL_law_307 : decode cL_law 307 = .ok (.iaload, 1) := by decide +kernel
theorem dL_law_308 : decode cL_law 308 = .ok (.invokevirtual 28, 3) := by decide +kernel
theorem dL_law_311 : decode cL_law 311 = .ok (.aload_n 2, 1) := by decide +kernel
theorem dL_law_312 : decode cL_law 312 = .ok (.aload_n 0, 1) := by decide +kernel
theorem dL_law_313 : decode cL_law 313 = .ok (.iload_n 3, 1) := by decide +kernel
theorem dL_law_314 : decode cL_law 314 = .ok (.iconst 1, 1) := by decide +kernel
theorem dL_law_315 : decode cL_law 315 = .ok (.iadd, 1) := by decide +kernel
theorem dL_law_316 : decode cL_law 316 = .ok (.iaload, 1) := by decide +kernel
theorem dL_law_317 : decode cL_law 317 = .ok (.aload_n 0, 1) := by decide +kernel
theorem dL_law_318 : decode cL_law 318 = .ok (.iload_n 3, 1) := by decide +kernel
theorem dL_law_319 : decode cL_law 319 = .ok (.iconst 2, 1) := by decide +kernel
theorem dL_law_320 : decode cL_law 320 = .ok (.iadd, 1) := by decide +kernel
theorem dL_law_321 : decode cL_law 321 = .ok (.iaload, 1) := by decide +kernel
theorem dL_law_322 : decode cL_law 322 = .ok (.invokevirtual 32, 3) := by decide +kernel
theorem dL_law_325 : decode cL_law 325 = .ok (.if_icmp .eq 974, 3) := by decide +kernel
theorem dL_law_328 : decode cL_law 328 = .ok (.iconst 0, 1) := by decide +kernel
theorem dL_law_329 : decode cL_law 329 = .ok (.ireturn, 1) := by decide +kernel
theorem dL_law_330 : decode cL_law 330 = .ok (.aload_n 1, 1) := by decide +kernel
theorem dL_law_331 : decode cL_law 331 = .ok (.aload_n 0, 1) := by decide +kernel
theorem dL_law_332 : decode cL_law 332 = .ok (.iload_n 3, 1) := by decide +kernel
theorem dL_law_333 : decode cL_law 333 = .ok (.iconst 1, 1) := by decide +kernel
theorem dL_law_334 : decode cL_law 334 = .ok (.iadd, 1) := by decide +kernel
theorem dL_law_335 : decode cL_law 335 = .ok (.iaload, 1) := by decide +kernel
theorem dL_law_336 : decode cL_law 336 = .ok (.invokevirtual 33, 3) := by decide +kernel
theorem dL_law_339 : decode cL_law 339 = .ok (.aload_n 2, 1) := by decide +kernel
theorem dL_law_340 : decode cL_law 340 = .ok (.aload_n 0, 1) := by decide +kernel
theorem dL_law_341 : decode cL_law 341 = .ok (.iload_n 3, 1) := by decide +kernel
theorem dL_law_342 : decode cL_law 342 = .ok (.iconst 1, 1) := by decide +kernel
theorem dL_law_343 : decode cL_law 343 = .ok (.iadd, 1) := by decide +kernel
theorem dL_law_344 : decode cL_law 344 = .ok (.iaload, 1) := by decide +kernel
theorem dL_law_345 : decode cL_law 345 = .ok (.invokevirtual 36, 3) := by decide +kernel
theorem dL_law_348 : decode cL_law 348 = .ok (.if_icmp .eq 951, 3) := by decide +kernel
theorem dL_law_351 : decode cL_law 351 = .ok (.iconst 0, 1) := by decide +kernel
theorem dL_law_352 : decode cL_law 352 = .ok (.ireturn, 1) := by decide +kernel
theorem dL_law_353 : decode cL_law 353 = .ok (.aload_n 1, 1) := by decide +kernel
theorem dL_law_354 : decode cL_law 354 = .ok (.aload_n 0, 1) := by decide +kernel
theorem dL_law_355 : decode cL_law 355 = .ok (.iload_n 3, 1) := by decide +kernel
theorem dL_law_356 : decode cL_law 356 = .ok (.iconst 1, 1) := by decide +kernel
theorem dL_law_357 : decode cL_law 357 = .ok (.iadd, 1) := by decide +kernel
theorem dL_law_358 : decode cL_law 358 = .ok (.iaload, 1) := by decide +kernel
theorem dL_law_359 : decode cL_law 359 = .ok (.aload_n 0, 1) := by decide +kernel
theorem dL_law_360 : decode cL_law 360 = .ok (.iload_n 3, 1) := by decide +kernel
theorem dL_law_361 : decode cL_law 361 = .ok (.iconst 2, 1) := by decide +kernel
theorem dL_law_362 : decode cL_law 362 = .ok (.iadd, 1) := by decide +kernel
theorem dL_law_363 : decode cL_law 363 = .ok (.iaload, 1) := by decide +kernel
theorem dL_law_364 : decode cL_law 364 = .ok (.aload_n 0, 1) := by decide +kernel
theorem dL_law_365 : decode cL_law 365 = .ok (.iload_n 3, 1) := by decide +kernel
theorem dL_law_366 : decode cL_law 366 = .ok (.iconst 3, 1) := by decide +kernel
theorem dL_law_367 : decode cL_law 367 = .ok (.iadd, 1) := by decide +kernel
theorem dL_law_368 : decode cL_law 368 = .ok (.iaload, 1) := by decide +kernel
theorem dL_law_369 : decode cL_law 369 = .ok (.aload_n 0, 1) := by decide +kernel
theorem dL_law_370 : decode cL_law 370 = .ok (.iload_n 3, 1) := by decide +kernel
theorem dL_law_371 : decode cL_law 371 = .ok (.iconst 4, 1) := by decide +kernel
theorem dL_law_372 : decode cL_law 372 = .ok (.iadd, 1) := by decide +kernel
theorem dL_law_373 : decode cL_law 373 = .ok (.iaload, 1) := by decide +kernel
theorem dL_law_374 : decode cL_law 374 = .ok (.aload_n 0, 1) := by decide +kernel
theorem dL_law_375 : decode cL_law 375 = .ok (.iload_n 3, 1) := by decide +kernel
theorem dL_law_376 : decode cL_law 376 = .ok (.iconst 5, 1) := by decide +kernel
theorem dL_law_377 : decode cL_law 377 = .ok (.iadd, 1) := by decide +kernel
theorem dL_law_378 : decode cL_law 378 = .ok (.iaload, 1) := by decide +kernel
theorem dL_law_379 : decode cL_law 379 = .ok (.invokevirtual 37, 3) := by decide +kernel
theorem dL_law_382 : decode cL_law 382 = .ok (.aload_n 2, 1) := by decide +kernel
theorem dL_law_383 : decode cL_law 383 = .ok (.aload_n 0, 1) := by decide +kernel
theorem dL_law_384 : decode cL_law 384 = .ok (.iload_n 3, 1) := by decide +kernel
theorem dL_law_385 : decode cL_law 385 = .ok (.iconst 1, 1) := by decide +kernel
theorem dL_law_386 : decode cL_law 386 = .ok (.iadd, 1) := by decide +kernel
theorem dL_law_387 : decode cL_law 387 = .ok (.iaload, 1) := by decide +kernel
theorem dL_law_388 : decode cL_law 388 = .ok (.aload_n 0, 1) := by decide +kernel
theorem dL_law_389 : decode cL_law 389 = .ok (.iload_n 3, 1) := by decide +kernel
theorem dL_law_390 : decode cL_law 390 = .ok (.iconst 2, 1) := by decide +kernel
theorem dL_law_391 : decode cL_law 391 = .ok (.iadd, 1) := by decide +kernel
theorem dL_law_392 : decode cL_law 392 = .ok (.iaload, 1) := by decide +kernel
theorem dL_law_393 : decode cL_law 393 = .ok (.aload_n 0, 1) := by decide +kernel
theorem dL_law_394 : decode cL_law 394 = .ok (.iload_n 3, 1) := by decide +kernel
theorem dL_law_395 : decode cL_law 395 = .ok (.iconst 3, 1) := by decide +kernel
theorem dL_law_396 : decode cL_law 396 = .ok (.iadd, 1) := by decide +kernel
theorem dL_law_397 : decode cL_law 397 = .ok (.iaload, 1) := by decide +kernel
theorem dL_law_398 : decode cL_law 398 = .ok (.aload_n 0, 1) := by decide +kernel
theorem dL_law_399 : decode cL_law 399 = .ok (.iload_n 3, 1) := by decide +kernel
theorem dL_law_400 : decode cL_law 400 = .ok (.iconst 4, 1) := by decide +kernel
theorem dL_law_401 : decode cL_law 401 = .ok (.iadd, 1) := by decide +kernel
theorem dL_law_402 : decode cL_law 402 = .ok (.iaload, 1) := by decide +kernel
theorem dL_law_403 : decode cL_law 403 = .ok (.aload_n 0, 1) := by decide +kernel
theorem dL_law_404 : decode cL_law 404 = .ok (.iload_n 3, 1) := by decide +kernel
theorem dL_law_405 : decode cL_law 405 = .ok (.iconst 5, 1) := by decide +kernel
theorem dL_law_406 : decode cL_law 406 = .ok (.iadd, 1) := by decide +kernel
theorem dL_law_407 : decode cL_law 407 = .ok (.iaload, 1) := by decide +kernel
theorem dL_law_408 : decode cL_law 408 = .ok (.invokevirtual 41, 3) := by decide +kernel
theorem dL_law_411 : decode cL_law 411 = .ok (.if_icmp .eq 888, 3) := by decide +kernel
theorem dL_law_414 : decode cL_law 414 = .ok (.iconst 0, 1) := by decide +kernel
theorem dL_law_415 : decode cL_law 415 = .ok (.ireturn, 1) := by decide +kernel
theorem dL_law_416 : decode cL_law 416 = .ok (.aload_n 1, 1) := by decide +kernel
theorem dL_law_417 : decode cL_law 417 = .ok (.aload_n 0, 1) := by decide +kernel
theorem dL_law_418 : decode cL_law 418 = .ok (.iload_n 3, 1) := by decide +kernel
theorem dL_law_419 : decode cL_law 419 = .ok (.iconst 1, 1) := by decide +kernel
theorem dL_law_420 : decode cL_law 420 = .ok (.iadd, 1) := by decide +kernel
theorem dL_law_421 : decode cL_law 421 = .ok (.iaload, 1) := by decide +kernel
theorem dL_law_422 : decode cL_law 422 = .ok (.invokevirtual 42, 3) := by decide +kernel
theorem dL_law_425 : decode cL_law 425 = .ok (.aload_n 2, 1) := by decide +kernel
theorem dL_law_426 : decode cL_law 426 = .ok (.aload_n 0, 1) := by decide +kernel
theorem dL_law_427 : decode cL_law 427 = .ok (.iload_n 3, 1) := by decide +kernel
theorem dL_law_428 : decode cL_law 428 = .ok (.iconst 1, 1) := by decide +kernel
theorem dL_law_429 : decode cL_law 429 = .ok (.iadd, 1) := by decide +kernel
theorem dL_law_430 : decode cL_law 430 = .ok (.iaload, 1) := by decide +kernel
theorem dL_law_431 : decode cL_law 431 = .ok (.invokevirtual 46, 3) := by decide +kernel
theorem dL_law_434 : decode cL_law 434 = .ok (.if_icmp .eq 865, 3) := by decide +kernel
theorem dL_law_437 : decode cL_law 437 = .ok (.iconst 0, 1) := by decide +kernel
theorem dL_law_438 : decode cL_law 438 = .ok (.ireturn, 1) := by decide +kernel
theorem dL_law_439 : decode cL_law 439 = .ok (.aload_n 1, 1) := by decide +kernel
theorem dL_law_440 : decode cL_law 440 = .ok (.aload_n 0, 1) := by decide +kernel
theorem dL_law_441 : decode cL_law 441 = .ok (.iload_n 3, 1) := by decide +kernel
theorem dL_law_442 : decode cL_law 442 = .ok (.iconst 1, 1) := by decide +kernel
theorem dL_law_443 : decode cL_law 443 = .ok (.iadd, 1) := by decide +kernel
theorem dL_law_444 : decode cL_law 444 = .ok (.iaload, 1) := by decide +kernel
theorem dL_law_445 : decode cL_law 445 = .ok (.invokevirtual 47, 3) := by decide +kernel
theorem dL_law_448 : decode cL_law 448 = .ok (.aload_n 2, 1) := by decide +kernel
theorem dL_law_449 : decode cL_law 449 = .ok (.aload_n 0, 1) := by decide +kernel
theorem dL_law_450 : decode cL_law 450 = .ok (.iload_n 3, 1) := by decide +kernel
theorem dL_law_451 : decode cL_law 451 = .ok (.iconst 1, 1) := by decide +kernel
theorem dL_law_452 : decode cL_law 452 = .ok (.iadd, 1) := by decide +kernel
theorem dL_law_453 : decode cL_law 453 = .ok (.iaload, 1) := by decide +kernel
theorem dL_law_454 : decode cL_law 454 = .ok (.invokevirtual 50, 3) := by decide +kernel
theorem dL_law_457 : decode cL_law 457 = .ok (.if_icmp .eq 842, 3) := by decide +kernel
theorem dL_law_460 : decode cL_law 460 = .ok (.iconst 0, 1) := by decide +kernel
theorem dL_law_461 : decode cL_law 461 = .ok (.ireturn, 1) := by decide +kernel
theorem dL_law_462 : decode cL_law 462 = .ok (.aload_n 1, 1) := by decide +kernel
theorem dL_law_463 : decode cL_law 463 = .ok (.aload_n 0, 1) := by decide +kernel
theorem dL_law_464 : decode cL_law 464 = .ok (.iload_n 3, 1) := by decide +kernel
theorem dL_law_465 : decode cL_law 465 = .ok (.iconst 1, 1) := by decide +kernel
theorem dL_law_466 : decode cL_law 466 = .ok (.iadd, 1) := by decide +kernel
theorem dL_law_467 : decode cL_law 467 = .ok (.iaload, 1) := by decide +kernel
theorem dL_law_468 : decode cL_law 468 = .ok (.invokevirtual 51, 3) := by decide +kernel
theorem dL_law_471 : decode cL_law 471 = .ok (.aload_n 2, 1) := by decide +kernel
theorem dL_law_472 : decode cL_law 472 = .ok (.aload_n 0, 1) := by decide +kernel
theorem dL_law_473 : decode cL_law 473 = .ok (.iload_n 3, 1) := by decide +kernel
theorem dL_law_474 : decode cL_law 474 = .ok (.iconst 1, 1) := by decide +kernel
theorem dL_law_475 : decode cL_law 475 = .ok (.iadd, 1) := by decide +kernel
theorem dL_law_476 : decode cL_law 476 = .ok (.iaload, 1) := by decide +kernel
theorem dL_law_477 : decode cL_law 477 = .ok (.invokevirtual 54, 3) := by decide +kernel
theorem dL_law_480 : decode cL_law 480 = .ok (.if_icmp .eq 819, 3) := by decide +kernel
theorem dL_law_483 : decode cL_law 483 = .ok (.iconst 0, 1) := by decide +kernel
theorem dL_law_484 : decode cL_law 484 = .ok (.ireturn, 1) := by decide +kernel
theorem dL_law_485 : decode cL_law 485 = .ok (.aload_n 1, 1) := by decide +kernel
theorem dL_law_486 : decode cL_law 486 = .ok (.aload_n 0, 1) := by decide +kernel
theorem dL_law_487 : decode cL_law 487 = .ok (.iload_n 3, 1) := by decide +kernel
theorem dL_law_488 : decode cL_law 488 = .ok (.iconst 1, 1) := by decide +kernel
theorem dL_law_489 : decode cL_law 489 = .ok (.iadd, 1) := by decide +kernel
theorem dL_law_490 : decode cL_law 490 = .ok (.iaload, 1) := by decide +kernel
theorem dL_law_491 : decode cL_law 491 = .ok (.aload_n 0, 1) := by decide +kernel
theorem dL_law_492 : decode cL_law 492 = .ok (.iload_n 3, 1) := by decide +kernel
theorem dL_law_493 : decode cL_law 493 = .ok (.iconst 2, 1) := by decide +kernel
theorem dL_law_494 : decode cL_law 494 = .ok (.iadd, 1) := by decide +kernel
theorem dL_law_495 : decode cL_law 495 = .ok (.iaload, 1) := by decide +kernel
theorem dL_law_496 : decode cL_law 496 = .ok (.invokevirtual 55, 3) := by decide +kernel
theorem dL_law_499 : decode cL_law 499 = .ok (.aload_n 2, 1) := by decide +kernel
theorem dL_law_500 : decode cL_law 500 = .ok (.aload_n 0, 1) := by decide +kernel
theorem dL_law_501 : decode cL_law 501 = .ok (.iload_n 3, 1) := by decide +kernel
theorem dL_law_502 : decode cL_law 502 = .ok (.iconst 1, 1) := by decide +kernel
theorem dL_law_503 : decode cL_law 503 = .ok (.iadd, 1) := by decide +kernel
theorem dL_law_504 : decode cL_law 504 = .ok (.iaload, 1) := by decide +kernel
theorem dL_law_505 : decode cL_law 505 = .ok (.aload_n 0, 1) := by decide +kernel
theorem dL_law_506 : decode cL_law 506 = .ok (.iload_n 3, 1) := by decide +kernel
theorem dL_law_507 : decode cL_law 507 = .ok (.iconst 2, 1) := by decide +kernel
theorem dL_law_508 : decode cL_law 508 = .ok (.iadd, 1) := by decide +kernel
theorem dL_law_509 : decode cL_law 509 = .ok (.iaload, 1) := by decide +kernel
theorem dL_law_510 : decode cL_law 510 = .ok (.invokevirtual 59, 3) := by decide +kernel
theorem dL_law_513 : decode cL_law 513 = .ok (.if_icmp .eq 786, 3) := by decide +kernel
theorem dL_law_516 : decode cL_law 516 = .ok (.iconst 0, 1) := by decide +kernel
theorem dL_law_517 : decode cL_law 517 = .ok (.ireturn, 1) := by decide +kernel
theorem dL_law_518 : decode cL_law 518 = .ok (.aload_n 1, 1) := by decide +kernel
theorem dL_law_519 : decode cL_law 519 = .ok (.aload_n 0, 1) := by decide +kernel
theorem dL_law_520 : decode cL_law 520 = .ok (.iload_n 3, 1) := by decide +kernel
theorem dL_law_521 : decode cL_law 521 = .ok (.iconst 1, 1) := by decide +kernel
theorem dL_law_522 : decode cL_law 522 = .ok (.iadd, 1) := by decide +kernel
theorem dL_law_523 : decode cL_law 523 = .ok (.iaload, 1) := by decide +kernel
theorem dL_law_524 : decode cL_law 524 = .ok (.aload_n 0, 1) := by decide +kernel
theorem dL_law_525 : decode cL_law 525 = .ok (.iload_n 3, 1) := by decide +kernel
theorem dL_law_526 : decode cL_law 526 = .ok (.iconst 2, 1) := by decide +kernel
theorem dL_law_527 : decode cL_law 527 = .ok (.iadd, 1) := by decide +kernel
theorem dL_law_528 : decode cL_law 528 = .ok (.iaload, 1) := by decide +kernel
theorem dL_law_529 : decode cL_law 529 = .ok (.invokevirtual 60, 3) := by decide +kernel
theorem dL_law_532 : decode cL_law 532 = .ok (.aload_n 2, 1) := by decide +kernel
theorem dL_law_533 : decode cL_law 533 = .ok (.aload_n 0, 1) := by decide +kernel
theorem dL_law_534 : decode cL_law 534 = .ok (.iload_n 3, 1) := by decide +kernel
theorem dL_law_535 : decode cL_law 535 = .ok (.iconst 1, 1) := by decide +kernel
theorem dL_law_536 : decode cL_law 536 = .ok (.iadd, 1) := by decide +kernel
theorem dL_law_537 : decode cL_law 537 = .ok (.iaload, 1) := by decide +kernel
theorem dL_law_538 : decode cL_law 538 = .ok (.aload_n 0, 1) := by decide +kernel
theorem dL_law_539 : decode cL_law 539 = .ok (.iload_n 3, 1) := by decide +kernel
theorem dL_law_540 : decode cL_law 540 = .ok (.iconst 2, 1) := by decide +kernel
theorem dL_law_541 : decode cL_law 541 = .ok (.iadd, 1) := by decide +kernel
theorem dL_law_542 : decode cL_law 542 = .ok (.iaload, 1) := by decide +kernel
theorem dL_law_543 : decode cL_law 543 = .ok (.invokevirtual 63, 3) := by decide +kernel
theorem dL_law_546 : decode cL_law 546 = .ok (.if_icmp .eq 753, 3) := by decide +kernel
theorem dL_law_549 : decode cL_law 549 = .ok (.iconst 0, 1) := by decide +kernel
theorem dL_law_550 : decode cL_law 550 = .ok (.ireturn, 1) := by decide +kernel
theorem dL_law_551 : decode cL_law 551 = .ok (.aload_n 1, 1) := by decide +kernel
theorem dL_law_552 : decode cL_law 552 = .ok (.aload_n 0, 1) := by decide +kernel
theorem dL_law_553 : decode cL_law 553 = .ok (.iload_n 3, 1) := by decide +kernel
theorem dL_law_554 : decode cL_law 554 = .ok (.iconst 1, 1) := by decide +kernel
theorem dL_law_555 : decode cL_law 555 = .ok (.iadd, 1) := by decide +kernel
theorem dL_law_556 : decode cL_law 556 = .ok (.iaload, 1) := by decide +kernel
theorem dL_law_557 : decode cL_law 557 = .ok (.aload_n 0, 1) := by decide +kernel
theorem dL_law_558 : decode cL_law 558 = .ok (.iload_n 3, 1) := by decide +kernel
theorem dL_law_559 : decode cL_law 559 = .ok (.iconst 2, 1) := by decide +kernel
theorem dL_law_560 : decode cL_law 560 = .ok (.iadd, 1) := by decide +kernel
theorem dL_law_561 : decode cL_law 561 = .ok (.iaload, 1) := by decide +kernel
theorem dL_law_562 : decode cL_law 562 = .ok (.invokevirtual 64, 3) := by decide +kernel
theorem dL_law_565 : decode cL_law 565 = .ok (.aload_n 2, 1) := by decide +kernel
theorem dL_law_566 : decode cL_law 566 = .ok (.aload_n 0, 1) := by decide +kernel
theorem dL_law_567 : decode cL_law 567 = .ok (.iload_n 3, 1) := by decide +kernel
theorem dL_law_568 : decode cL_law 568 = .ok (.iconst 1, 1) := by decide +kernel
theorem dL_law_569 : decode cL_law 569 = .ok (.iadd, 1) := by decide +kernel
theorem dL_law_570 : decode cL_law 570 = .ok (.iaload, 1) := by decide +kernel
theorem dL_law_571 : decode cL_law 571 = .ok (.aload_n 0, 1) := by decide +kernel
theorem dL_law_572 : decode cL_law 572 = .ok (.iload_n 3, 1) := by decide +kernel
theorem dL_law_573 : decode cL_law 573 = .ok (.iconst 2, 1) := by decide +kernel
theorem dL_law_574 : decode cL_law 574 = .ok (.iadd, 1) := by decide +kernel
theorem dL_law_575 : decode cL_law 575 = .ok (.iaload, 1) := by decide +kernel
theorem dL_law_576 : decode cL_law 576 = .ok (.invokevirtual 67, 3) := by decide +kernel
theorem dL_law_579 : decode cL_law 579 = .ok (.if_icmp .eq 720, 3) := by decide +kernel
theorem dL_law_582 : decode cL_law 582 = .ok (.iconst 0, 1) := by decide +kernel
theorem dL_law_583 : decode cL_law 583 = .ok (.ireturn, 1) := by decide +kernel
theorem dL_law_584 : decode cL_law 584 = .ok (.aload_n 1, 1) := by decide +kernel
theorem dL_law_585 : decode cL_law 585 = .ok (.aload_n 0, 1) := by decide +kernel
theorem dL_law_586 : decode cL_law 586 = .ok (.iload_n 3, 1) := by decide +kernel
theorem dL_law_587 : decode cL_law 587 = .ok (.iconst 1, 1) := by decide +kernel
theorem dL_law_588 : decode cL_law 588 = .ok (.iadd, 1) := by decide +kernel
theorem dL_law_589 : decode cL_law 589 = .ok (.iaload, 1) := by decide +kernel
theorem dL_law_590 : decode cL_law 590 = .ok (.invokevirtual 68, 3) := by decide +kernel
theorem dL_law_593 : decode cL_law 593 = .ok (.aload_n 2, 1) := by decide +kernel
theorem dL_law_594 : decode cL_law 594 = .ok (.aload_n 0, 1) := by decide +kernel
theorem dL_law_595 : decode cL_law 595 = .ok (.iload_n 3, 1) := by decide +kernel
theorem dL_law_596 : decode cL_law 596 = .ok (.iconst 1, 1) := by decide +kernel
theorem dL_law_597 : decode cL_law 597 = .ok (.iadd, 1) := by decide +kernel
theorem dL_law_598 : decode cL_law 598 = .ok (.iaload, 1) := by decide +kernel
theorem dL_law_599 : decode cL_law 599 = .ok (.invokevirtual 71, 3) := by decide +kernel
theorem dL_law_602 : decode cL_law 602 = .ok (.if_icmp .eq 697, 3) := by decide +kernel
theorem dL_law_605 : decode cL_law 605 = .ok (.iconst 0, 1) := by decide +kernel
theorem dL_law_606 : decode cL_law 606 = .ok (.ireturn, 1) := by decide +kernel
theorem dL_law_607 : decode cL_law 607 = .ok (.aload_n 1, 1) := by decide +kernel
theorem dL_law_608 : decode cL_law 608 = .ok (.aload_n 0, 1) := by decide +kernel
theorem dL_law_609 : decode cL_law 609 = .ok (.iload_n 3, 1) := by decide +kernel
theorem dL_law_610 : decode cL_law 610 = .ok (.iconst 1, 1) := by decide +kernel
theorem dL_law_611 : decode cL_law 611 = .ok (.iadd, 1) := by decide +kernel
theorem dL_law_612 : decode cL_law 612 = .ok (.iaload, 1) := by decide +kernel
theorem dL_law_613 : decode cL_law 613 = .ok (.aload_n 0, 1) := by decide +kernel
theorem dL_law_614 : decode cL_law 614 = .ok (.iload_n 3, 1) := by decide +kernel
theorem dL_law_615 : decode cL_law 615 = .ok (.iconst 2, 1) := by decide +kernel
theorem dL_law_616 : decode cL_law 616 = .ok (.iadd, 1) := by decide +kernel
theorem dL_law_617 : decode cL_law 617 = .ok (.iaload, 1) := by decide +kernel
theorem dL_law_618 : decode cL_law 618 = .ok (.aload_n 0, 1) := by decide +kernel
theorem dL_law_619 : decode cL_law 619 = .ok (.iload_n 3, 1) := by decide +kernel
theorem dL_law_620 : decode cL_law 620 = .ok (.iconst 3, 1) := by decide +kernel
theorem dL_law_621 : decode cL_law 621 = .ok (.iadd, 1) := by decide +kernel
theorem dL_law_622 : decode cL_law 622 = .ok (.iaload, 1) := by decide +kernel
theorem dL_law_623 : decode cL_law 623 = .ok (.aload_n 0, 1) := by decide +kernel
theorem dL_law_624 : decode cL_law 624 = .ok (.iload_n 3, 1) := by decide +kernel
theorem dL_law_625 : decode cL_law 625 = .ok (.iconst 4, 1) := by decide +kernel
theorem dL_law_626 : decode cL_law 626 = .ok (.iadd, 1) := by decide +kernel
theorem dL_law_627 : decode cL_law 627 = .ok (.iaload, 1) := by decide +kernel
theorem dL_law_628 : decode cL_law 628 = .ok (.invokevirtual 72, 3) := by decide +kernel
theorem dL_law_631 : decode cL_law 631 = .ok (.aload_n 2, 1) := by decide +kernel
theorem dL_law_632 : decode cL_law 632 = .ok (.aload_n 0, 1) := by decide +kernel
theorem dL_law_633 : decode cL_law 633 = .ok (.iload_n 3, 1) := by decide +kernel
theorem dL_law_634 : decode cL_law 634 = .ok (.iconst 1, 1) := by decide +kernel
theorem dL_law_635 : decode cL_law 635 = .ok (.iadd, 1) := by decide +kernel
theorem dL_law_636 : decode cL_law 636 = .ok (.iaload, 1) := by decide +kernel
theorem dL_law_637 : decode cL_law 637 = .ok (.aload_n 0, 1) := by decide +kernel
theorem dL_law_638 : decode cL_law 638 = .ok (.iload_n 3, 1) := by decide +kernel
theorem dL_law_639 : decode cL_law 639 = .ok (.iconst 2, 1) := by decide +kernel
theorem dL_law_640 : decode cL_law 640 = .ok (.iadd, 1) := by decide +kernel
theorem dL_law_641 : decode cL_law 641 = .ok (.iaload, 1) := by decide +kernel
theorem dL_law_642 : decode cL_law 642 = .ok (.aload_n 0, 1) := by decide +kernel
theorem dL_law_643 : decode cL_law 643 = .ok (.iload_n 3, 1) := by decide +kernel
theorem dL_law_644 : decode cL_law 644 = .ok (.iconst 3, 1) := by decide +kernel
theorem dL_law_645 : decode cL_law 645 = .ok (.iadd, 1) := by decide +kernel
theorem dL_law_646 : decode cL_law 646 = .ok (.iaload, 1) := by decide +kernel
theorem dL_law_647 : decode cL_law 647 = .ok (.aload_n 0, 1) := by decide +kernel
theorem dL_law_648 : decode cL_law 648 = .ok (.iload_n 3, 1) := by decide +kernel
theorem dL_law_649 : decode cL_law 649 = .ok (.iconst 4, 1) := by decide +kernel
theorem dL_law_650 : decode cL_law 650 = .ok (.iadd, 1) := by decide +kernel
theorem dL_law_651 : decode cL_law 651 = .ok (.iaload, 1) := by decide +kernel
theorem dL_law_652 : decode cL_law 652 = .ok (.invokevirtual 76, 3) := by decide +kernel
theorem dL_law_655 : decode cL_law 655 = .ok (.if_icmp .eq 644, 3) := by decide +kernel
theorem dL_law_658 : decode cL_law 658 = .ok (.iconst 0, 1) := by decide +kernel
theorem dL_law_659 : decode cL_law 659 = .ok (.ireturn, 1) := by decide +kernel
theorem dL_law_660 : decode cL_law 660 = .ok (.aload_n 1, 1) := by decide +kernel
theorem dL_law_661 : decode cL_law 661 = .ok (.aload_n 0, 1) := by decide +kernel
theorem dL_law_662 : decode cL_law 662 = .ok (.iload_n 3, 1) := by decide +kernel
theorem dL_law_663 : decode cL_law 663 = .ok (.iconst 1, 1) := by decide +kernel
theorem dL_law_664 : decode cL_law 664 = .ok (.iadd, 1) := by decide +kernel
theorem dL_law_665 : decode cL_law 665 = .ok (.iaload, 1) := by decide +kernel
theorem dL_law_666 : decode cL_law 666 = .ok (.invokevirtual 77, 3) := by decide +kernel
theorem dL_law_669 : decode cL_law 669 = .ok (.aload_n 2, 1) := by decide +kernel
theorem dL_law_670 : decode cL_law 670 = .ok (.aload_n 0, 1) := by decide +kernel
theorem dL_law_671 : decode cL_law 671 = .ok (.iload_n 3, 1) := by decide +kernel
theorem dL_law_672 : decode cL_law 672 = .ok (.iconst 1, 1) := by decide +kernel
theorem dL_law_673 : decode cL_law 673 = .ok (.iadd, 1) := by decide +kernel
theorem dL_law_674 : decode cL_law 674 = .ok (.iaload, 1) := by decide +kernel
theorem dL_law_675 : decode cL_law 675 = .ok (.invokevirtual 80, 3) := by decide +kernel
theorem dL_law_678 : decode cL_law 678 = .ok (.if_icmp .eq 621, 3) := by decide +kernel
theorem dL_law_681 : decode cL_law 681 = .ok (.iconst 0, 1) := by decide +kernel
theorem dL_law_682 : decode cL_law 682 = .ok (.ireturn, 1) := by decide +kernel
theorem dL_law_683 : decode cL_law 683 = .ok (.aload_n 1, 1) := by decide +kernel
theorem dL_law_684 : decode cL_law 684 = .ok (.aload_n 0, 1) := by decide +kernel
theorem dL_law_685 : decode cL_law 685 = .ok (.iload_n 3, 1) := by decide +kernel
theorem dL_law_686 : decode cL_law 686 = .ok (.iconst 1, 1) := by decide +kernel
theorem dL_law_687 : decode cL_law 687 = .ok (.iadd, 1) := by decide +kernel
theorem dL_law_688 : decode cL_law 688 = .ok (.iaload, 1) := by decide +kernel
theorem dL_law_689 : decode cL_law 689 = .ok (.invokevirtual 81, 3) := by decide +kernel
theorem dL_law_692 : decode cL_law 692 = .ok (.aload_n 2, 1) := by decide +kernel
theorem dL_law_693 : decode cL_law 693 = .ok (.aload_n 0, 1) := by decide +kernel
theorem dL_law_694 : decode cL_law 694 = .ok (.iload_n 3, 1) := by decide +kernel
theorem dL_law_695 : decode cL_law 695 = .ok (.iconst 1, 1) := by decide +kernel
theorem dL_law_696 : decode cL_law 696 = .ok (.iadd, 1) := by decide +kernel
theorem dL_law_697 : decode cL_law 697 = .ok (.iaload, 1) := by decide +kernel
theorem dL_law_698 : decode cL_law 698 = .ok (.invokevirtual 84, 3) := by decide +kernel
theorem dL_law_701 : decode cL_law 701 = .ok (.if_icmp .eq 598, 3) := by decide +kernel
theorem dL_law_704 : decode cL_law 704 = .ok (.iconst 0, 1) := by decide +kernel
theorem dL_law_705 : decode cL_law 705 = .ok (.ireturn, 1) := by decide +kernel
theorem dL_law_706 : decode cL_law 706 = .ok (.aload_n 1, 1) := by decide +kernel
theorem dL_law_707 : decode cL_law 707 = .ok (.aload_n 0, 1) := by decide +kernel
theorem dL_law_708 : decode cL_law 708 = .ok (.iload_n 3, 1) := by decide +kernel
theorem dL_law_709 : decode cL_law 709 = .ok (.iconst 1, 1) := by decide +kernel
theorem dL_law_710 : decode cL_law 710 = .ok (.iadd, 1) := by decide +kernel
theorem dL_law_711 : decode cL_law 711 = .ok (.iaload, 1) := by decide +kernel
theorem dL_law_712 : decode cL_law 712 = .ok (.aload_n 0, 1) := by decide +kernel
theorem dL_law_713 : decode cL_law 713 = .ok (.iload_n 3, 1) := by decide +kernel
theorem dL_law_714 : decode cL_law 714 = .ok (.iconst 2, 1) := by decide +kernel
theorem dL_law_715 : decode cL_law 715 = .ok (.iadd, 1) := by decide +kernel
theorem dL_law_716 : decode cL_law 716 = .ok (.iaload, 1) := by decide +kernel
theorem dL_law_717 : decode cL_law 717 = .ok (.invokevirtual 85, 3) := by decide +kernel
theorem dL_law_720 : decode cL_law 720 = .ok (.aload_n 2, 1) := by decide +kernel
theorem dL_law_721 : decode cL_law 721 = .ok (.aload_n 0, 1) := by decide +kernel
theorem dL_law_722 : decode cL_law 722 = .ok (.iload_n 3, 1) := by decide +kernel
theorem dL_law_723 : decode cL_law 723 = .ok (.iconst 1, 1) := by decide +kernel
theorem dL_law_724 : decode cL_law 724 = .ok (.iadd, 1) := by decide +kernel
theorem dL_law_725 : decode cL_law 725 = .ok (.iaload, 1) := by decide +kernel
theorem dL_law_726 : decode cL_law 726 = .ok (.aload_n 0, 1) := by decide +kernel
theorem dL_law_727 : decode cL_law 727 = .ok (.iload_n 3, 1) := by decide +kernel
theorem dL_law_728 : decode cL_law 728 = .ok (.iconst 2, 1) := by decide +kernel
theorem dL_law_729 : decode cL_law 729 = .ok (.iadd, 1) := by decide +kernel
theorem dL_law_730 : decode cL_law 730 = .ok (.iaload, 1) := by decide +kernel
theorem dL_law_731 : decode cL_law 731 = .ok (.invokevirtual 88, 3) := by decide +kernel
theorem dL_law_734 : decode cL_law 734 = .ok (.if_icmp .eq 565, 3) := by decide +kernel
theorem dL_law_737 : decode cL_law 737 = .ok (.iconst 0, 1) := by decide +kernel
theorem dL_law_738 : decode cL_law 738 = .ok (.ireturn, 1) := by decide +kernel
theorem dL_law_739 : decode cL_law 739 = .ok (.aload_n 1, 1) := by decide +kernel
theorem dL_law_740 : decode cL_law 740 = .ok (.aload_n 0, 1) := by decide +kernel
theorem dL_law_741 : decode cL_law 741 = .ok (.iload_n 3, 1) := by decide +kernel
theorem dL_law_742 : decode cL_law 742 = .ok (.iconst 1, 1) := by decide +kernel
theorem dL_law_743 : decode cL_law 743 = .ok (.iadd, 1) := by decide +kernel
theorem dL_law_744 : decode cL_law 744 = .ok (.iaload, 1) := by decide +kernel
theorem dL_law_745 : decode cL_law 745 = .ok (.aload_n 0, 1) := by decide +kernel
theorem dL_law_746 : decode cL_law 746 = .ok (.iload_n 3, 1) := by decide +kernel
theorem dL_law_747 : decode cL_law 747 = .ok (.iconst 2, 1) := by decide +kernel
theorem dL_law_748 : decode cL_law 748 = .ok (.iadd, 1) := by decide +kernel
theorem dL_law_749 : decode cL_law 749 = .ok (.iaload, 1) := by decide +kernel
theorem dL_law_750 : decode cL_law 750 = .ok (.invokevirtual 89, 3) := by decide +kernel
theorem dL_law_753 : decode cL_law 753 = .ok (.aload_n 2, 1) := by decide +kernel
theorem dL_law_754 : decode cL_law 754 = .ok (.aload_n 0, 1) := by decide +kernel
theorem dL_law_755 : decode cL_law 755 = .ok (.iload_n 3, 1) := by decide +kernel
theorem dL_law_756 : decode cL_law 756 = .ok (.iconst 1, 1) := by decide +kernel
theorem dL_law_757 : decode cL_law 757 = .ok (.iadd, 1) := by decide +kernel
theorem dL_law_758 : decode cL_law 758 = .ok (.iaload, 1) := by decide +kernel
theorem dL_law_759 : decode cL_law 759 = .ok (.aload_n 0, 1) := by decide +kernel
theorem dL_law_760 : decode cL_law 760 = .ok (.iload_n 3, 1) := by decide +kernel
theorem dL_law_761 : decode cL_law 761 = .ok (.iconst 2, 1) := by decide +kernel
theorem dL_law_762 : decode cL_law 762 = .ok (.iadd, 1) := by decide +kernel
theorem dL_law_763 : decode cL_law 763 = .ok (.iaload, 1) := by decide +kernel
theorem dL_law_764 : decode cL_law 764 = .ok (.invokevirtual 92, 3) := by decide +kernel
theorem dL_law_767 : decode cL_law 767 = .ok (.if_icmp .eq 532, 3) := by decide +kernel
theorem dL_law_770 : decode cL_law 770 = .ok (.iconst 0, 1) := by decide +kernel
theorem dL_law_771 : decode cL_law 771 = .ok (.ireturn, 1) := by decide +kernel
theorem dL_law_772 : decode cL_law 772 = .ok (.aload_n 1, 1) := by decide +kernel
theorem dL_law_773 : decode cL_law 773 = .ok (.aload_n 0, 1) := by decide +kernel
theorem dL_law_774 : decode cL_law 774 = .ok (.iload_n 3, 1) := by decide +kernel
theorem dL_law_775 : decode cL_law 775 = .ok (.iconst 1, 1) := by decide +kernel
theorem dL_law_776 : decode cL_law 776 = .ok (.iadd, 1) := by decide +kernel
theorem dL_law_777 : decode cL_law 777 = .ok (.iaload, 1) := by decide +kernel
theorem dL_law_778 : decode cL_law 778 = .ok (.aload_n 0, 1) := by decide +kernel
theorem dL_law_779 : decode cL_law 779 = .ok (.iload_n 3, 1) := by decide +kernel
theorem dL_law_780 : decode cL_law 780 = .ok (.iconst 2, 1) := by decide +kernel
theorem dL_law_781 : decode cL_law 781 = .ok (.iadd, 1) := by decide +kernel
theorem dL_law_782 : decode cL_law 782 = .ok (.iaload, 1) := by decide +kernel
theorem dL_law_783 : decode cL_law 783 = .ok (.invokevirtual 93, 3) := by decide +kernel
theorem dL_law_786 : decode cL_law 786 = .ok (.aload_n 2, 1) := by decide +kernel
theorem dL_law_787 : decode cL_law 787 = .ok (.aload_n 0, 1) := by decide +kernel
theorem dL_law_788 : decode cL_law 788 = .ok (.iload_n 3, 1) := by decide +kernel
theorem dL_law_789 : decode cL_law 789 = .ok (.iconst 1, 1) := by decide +kernel
theorem dL_law_790 : decode cL_law 790 = .ok (.iadd, 1) := by decide +kernel
theorem dL_law_791 : decode cL_law 791 = .ok (.iaload, 1) := by decide +kernel
theorem dL_law_792 : decode cL_law 792 = .ok (.aload_n 0, 1) := by decide +kernel
theorem dL_law_793 : decode cL_law 793 = .ok (.iload_n 3, 1) := by decide +kernel
theorem dL_law_794 : decode cL_law 794 = .ok (.iconst 2, 1) := by decide +kernel
theorem dL_law_795 : decode cL_law 795 = .ok (.iadd, 1) := by decide +kernel
theorem dL_law_796 : decode cL_law 796 = .ok (.iaload, 1) := by decide +kernel
theorem dL_law_797 : decode cL_law 797 = .ok (.invokevirtual 96, 3) := by decide +kernel
theorem dL_law_800 : decode cL_law 800 = .ok (.if_icmp .eq 499, 3) := by decide +kernel
theorem dL_law_803 : decode cL_law 803 = .ok (.iconst 0, 1) := by decide +kernel
theorem dL_law_804 : decode cL_law 804 = .ok (.ireturn, 1) := by decide +kernel
theorem dL_law_805 : decode cL_law 805 = .ok (.aload_n 1, 1) := by decide +kernel
theorem dL_law_806 : decode cL_law 806 = .ok (.aload_n 0, 1) := by decide +kernel
theorem dL_law_807 : decode cL_law 807 = .ok (.iload_n 3, 1) := by decide +kernel
theorem dL_law_808 : decode cL_law 808 = .ok (.iconst 1, 1) := by decide +kernel
theorem dL_law_809 : decode cL_law 809 = .ok (.iadd, 1) := by decide +kernel
theorem dL_law_810 : decode cL_law 810 = .ok (.iaload, 1) := by decide +kernel
theorem dL_law_811 : decode cL_law 811 = .ok (.invokevirtual 97, 3) := by decide +kernel
theorem dL_law_814 : decode cL_law 814 = .ok (.aload_n 2, 1) := by decide +kernel
theorem dL_law_815 : decode cL_law 815 = .ok (.aload_n 0, 1) := by decide +kernel
theorem dL_law_816 : decode cL_law 816 = .ok (.iload_n 3, 1) := by decide +kernel
theorem dL_law_817 : decode cL_law 817 = .ok (.iconst 1, 1) := by decide +kernel
theorem dL_law_818 : decode cL_law 818 = .ok (.iadd, 1) := by decide +kernel
theorem dL_law_819 : decode cL_law 819 = .ok (.iaload, 1) := by decide +kernel
theorem dL_law_820 : decode cL_law 820 = .ok (.invokevirtual 100, 3) := by decide +kernel
theorem dL_law_823 : decode cL_law 823 = .ok (.if_icmp .eq 476, 3) := by decide +kernel
theorem dL_law_826 : decode cL_law 826 = .ok (.iconst 0, 1) := by decide +kernel
theorem dL_law_827 : decode cL_law 827 = .ok (.ireturn, 1) := by decide +kernel
theorem dL_law_828 : decode cL_law 828 = .ok (.aload_n 1, 1) := by decide +kernel
theorem dL_law_829 : decode cL_law 829 = .ok (.aload_n 0, 1) := by decide +kernel
theorem dL_law_830 : decode cL_law 830 = .ok (.iload_n 3, 1) := by decide +kernel
theorem dL_law_831 : decode cL_law 831 = .ok (.iconst 1, 1) := by decide +kernel
theorem dL_law_832 : decode cL_law 832 = .ok (.iadd, 1) := by decide +kernel
theorem dL_law_833 : decode cL_law 833 = .ok (.iaload, 1) := by decide +kernel
theorem dL_law_834 : decode cL_law 834 = .ok (.invokevirtual 101, 3) := by decide +kernel
theorem dL_law_837 : decode cL_law 837 = .ok (.aload_n 2, 1) := by decide +kernel
theorem dL_law_838 : decode cL_law 838 = .ok (.aload_n 0, 1) := by decide +kernel
theorem dL_law_839 : decode cL_law 839 = .ok (.iload_n 3, 1) := by decide +kernel
theorem dL_law_840 : decode cL_law 840 = .ok (.iconst 1, 1) := by decide +kernel
theorem dL_law_841 : decode cL_law 841 = .ok (.iadd, 1) := by decide +kernel
theorem dL_law_842 : decode cL_law 842 = .ok (.iaload, 1) := by decide +kernel
theorem dL_law_843 : decode cL_law 843 = .ok (.invokevirtual 104, 3) := by decide +kernel
theorem dL_law_846 : decode cL_law 846 = .ok (.if_icmp .eq 453, 3) := by decide +kernel
theorem dL_law_849 : decode cL_law 849 = .ok (.iconst 0, 1) := by decide +kernel
theorem dL_law_850 : decode cL_law 850 = .ok (.ireturn, 1) := by decide +kernel
theorem dL_law_851 : decode cL_law 851 = .ok (.aload_n 1, 1) := by decide +kernel
theorem dL_law_852 : decode cL_law 852 = .ok (.aload_n 0, 1) := by decide +kernel
theorem dL_law_853 : decode cL_law 853 = .ok (.iload_n 3, 1) := by decide +kernel
theorem dL_law_854 : decode cL_law 854 = .ok (.iconst 1, 1) := by decide +kernel
theorem dL_law_855 : decode cL_law 855 = .ok (.iadd, 1) := by decide +kernel
theorem dL_law_856 : decode cL_law 856 = .ok (.iaload, 1) := by decide +kernel
theorem dL_law_857 : decode cL_law 857 = .ok (.invokevirtual 105, 3) := by decide +kernel
theorem dL_law_860 : decode cL_law 860 = .ok (.aload_n 2, 1) := by decide +kernel
theorem dL_law_861 : decode cL_law 861 = .ok (.aload_n 0, 1) := by decide +kernel
theorem dL_law_862 : decode cL_law 862 = .ok (.iload_n 3, 1) := by decide +kernel
theorem dL_law_863 : decode cL_law 863 = .ok (.iconst 1, 1) := by decide +kernel
theorem dL_law_864 : decode cL_law 864 = .ok (.iadd, 1) := by decide +kernel
theorem dL_law_865 : decode cL_law 865 = .ok (.iaload, 1) := by decide +kernel
theorem dL_law_866 : decode cL_law 866 = .ok (.invokevirtual 108, 3) := by decide +kernel
theorem dL_law_869 : decode cL_law 869 = .ok (.if_icmp .eq 430, 3) := by decide +kernel
theorem dL_law_872 : decode cL_law 872 = .ok (.iconst 0, 1) := by decide +kernel
theorem dL_law_873 : decode cL_law 873 = .ok (.ireturn, 1) := by decide +kernel
theorem dL_law_874 : decode cL_law 874 = .ok (.aload_n 1, 1) := by decide +kernel
theorem dL_law_875 : decode cL_law 875 = .ok (.aload_n 0, 1) := by decide +kernel
theorem dL_law_876 : decode cL_law 876 = .ok (.iload_n 3, 1) := by decide +kernel
theorem dL_law_877 : decode cL_law 877 = .ok (.iconst 1, 1) := by decide +kernel
theorem dL_law_878 : decode cL_law 878 = .ok (.iadd, 1) := by decide +kernel
theorem dL_law_879 : decode cL_law 879 = .ok (.iaload, 1) := by decide +kernel
theorem dL_law_880 : decode cL_law 880 = .ok (.aload_n 0, 1) := by decide +kernel
theorem dL_law_881 : decode cL_law 881 = .ok (.iload_n 3, 1) := by decide +kernel
theorem dL_law_882 : decode cL_law 882 = .ok (.iconst 2, 1) := by decide +kernel
theorem dL_law_883 : decode cL_law 883 = .ok (.iadd, 1) := by decide +kernel
theorem dL_law_884 : decode cL_law 884 = .ok (.iaload, 1) := by decide +kernel
theorem dL_law_885 : decode cL_law 885 = .ok (.invokevirtual 109, 3) := by decide +kernel
theorem dL_law_888 : decode cL_law 888 = .ok (.aload_n 2, 1) := by decide +kernel
theorem dL_law_889 : decode cL_law 889 = .ok (.aload_n 0, 1) := by decide +kernel
theorem dL_law_890 : decode cL_law 890 = .ok (.iload_n 3, 1) := by decide +kernel
theorem dL_law_891 : decode cL_law 891 = .ok (.iconst 1, 1) := by decide +kernel
theorem dL_law_892 : decode cL_law 892 = .ok (.iadd, 1) := by decide +kernel
theorem dL_law_893 : decode cL_law 893 = .ok (.iaload, 1) := by decide +kernel
theorem dL_law_894 : decode cL_law 894 = .ok (.aload_n 0, 1) := by decide +kernel
theorem dL_law_895 : decode cL_law 895 = .ok (.iload_n 3, 1) := by decide +kernel
theorem dL_law_896 : decode cL_law 896 = .ok (.iconst 2, 1) := by decide +kernel
theorem dL_law_897 : decode cL_law 897 = .ok (.iadd, 1) := by decide +kernel
theorem dL_law_898 : decode cL_law 898 = .ok (.iaload, 1) := by decide +kernel
theorem dL_law_899 : decode cL_law 899 = .ok (.invokevirtual 112, 3) := by decide +kernel
theorem dL_law_902 : decode cL_law 902 = .ok (.if_icmp .eq 397, 3) := by decide +kernel
theorem dL_law_905 : decode cL_law 905 = .ok (.iconst 0, 1) := by decide +kernel
theorem dL_law_906 : decode cL_law 906 = .ok (.ireturn, 1) := by decide +kernel
theorem dL_law_907 : decode cL_law 907 = .ok (.aload_n 1, 1) := by decide +kernel
theorem dL_law_908 : decode cL_law 908 = .ok (.aload_n 0, 1) := by decide +kernel
theorem dL_law_909 : decode cL_law 909 = .ok (.iload_n 3, 1) := by decide +kernel
theorem dL_law_910 : decode cL_law 910 = .ok (.iconst 1, 1) := by decide +kernel
theorem dL_law_911 : decode cL_law 911 = .ok (.iadd, 1) := by decide +kernel
theorem dL_law_912 : decode cL_law 912 = .ok (.iaload, 1) := by decide +kernel
theorem dL_law_913 : decode cL_law 913 = .ok (.aload_n 0, 1) := by decide +kernel
theorem dL_law_914 : decode cL_law 914 = .ok (.iload_n 3, 1) := by decide +kernel
theorem dL_law_915 : decode cL_law 915 = .ok (.iconst 2, 1) := by decide +kernel
theorem dL_law_916 : decode cL_law 916 = .ok (.iadd, 1) := by decide +kernel
theorem dL_law_917 : decode cL_law 917 = .ok (.iaload, 1) := by decide +kernel
theorem dL_law_918 : decode cL_law 918 = .ok (.aload_n 0, 1) := by decide +kernel
theorem dL_law_919 : decode cL_law 919 = .ok (.iload_n 3, 1) := by decide +kernel
theorem dL_law_920 : decode cL_law 920 = .ok (.iconst 3, 1) := by decide +kernel
theorem dL_law_921 : decode cL_law 921 = .ok (.iadd, 1) := by decide +kernel
theorem dL_law_922 : decode cL_law 922 = .ok (.iaload, 1) := by decide +kernel
theorem dL_law_923 : decode cL_law 923 = .ok (.invokevirtual 113, 3) := by decide +kernel
theorem dL_law_926 : decode cL_law 926 = .ok (.aload_n 2, 1) := by decide +kernel
theorem dL_law_927 : decode cL_law 927 = .ok (.aload_n 0, 1) := by decide +kernel
theorem dL_law_928 : decode cL_law 928 = .ok (.iload_n 3, 1) := by decide +kernel
theorem dL_law_929 : decode cL_law 929 = .ok (.iconst 1, 1) := by decide +kernel
theorem dL_law_930 : decode cL_law 930 = .ok (.iadd, 1) := by decide +kernel
theorem dL_law_931 : decode cL_law 931 = .ok (.iaload, 1) := by decide +kernel
theorem dL_law_932 : decode cL_law 932 = .ok (.aload_n 0, 1) := by decide +kernel
theorem dL_law_933 : decode cL_law 933 = .ok (.iload_n 3, 1) := by decide +kernel
theorem dL_law_934 : decode cL_law 934 = .ok (.iconst 2, 1) := by decide +kernel
theorem dL_law_935 : decode cL_law 935 = .ok (.iadd, 1) := by decide +kernel
theorem dL_law_936 : decode cL_law 936 = .ok (.iaload, 1) := by decide +kernel
theorem dL_law_937 : decode cL_law 937 = .ok (.aload_n 0, 1) := by decide +kernel
theorem dL_law_938 : decode cL_law 938 = .ok (.iload_n 3, 1) := by decide +kernel
theorem dL_law_939 : decode cL_law 939 = .ok (.iconst 3, 1) := by decide +kernel
theorem dL_law_940 : decode cL_law 940 = .ok (.iadd, 1) := by decide +kernel
theorem dL_law_941 : decode cL_law 941 = .ok (.iaload, 1) := by decide +kernel
theorem dL_law_942 : decode cL_law 942 = .ok (.invokevirtual 116, 3) := by decide +kernel
theorem dL_law_945 : decode cL_law 945 = .ok (.if_icmp .eq 354, 3) := by decide +kernel
theorem dL_law_948 : decode cL_law 948 = .ok (.iconst 0, 1) := by decide +kernel
theorem dL_law_949 : decode cL_law 949 = .ok (.ireturn, 1) := by decide +kernel
theorem dL_law_950 : decode cL_law 950 = .ok (.aload_n 1, 1) := by decide +kernel
theorem dL_law_951 : decode cL_law 951 = .ok (.aload_n 0, 1) := by decide +kernel
theorem dL_law_952 : decode cL_law 952 = .ok (.iload_n 3, 1) := by decide +kernel
theorem dL_law_953 : decode cL_law 953 = .ok (.iconst 1, 1) := by decide +kernel
theorem dL_law_954 : decode cL_law 954 = .ok (.iadd, 1) := by decide +kernel
theorem dL_law_955 : decode cL_law 955 = .ok (.iaload, 1) := by decide +kernel
theorem dL_law_956 : decode cL_law 956 = .ok (.aload_n 0, 1) := by decide +kernel
theorem dL_law_957 : decode cL_law 957 = .ok (.iload_n 3, 1) := by decide +kernel
theorem dL_law_958 : decode cL_law 958 = .ok (.iconst 2, 1) := by decide +kernel
theorem dL_law_959 : decode cL_law 959 = .ok (.iadd, 1) := by decide +kernel
theorem dL_law_960 : decode cL_law 960 = .ok (.iaload, 1) := by decide +kernel
theorem dL_law_961 : decode cL_law 961 = .ok (.aload_n 0, 1) := by decide +kernel
theorem dL_law_962 : decode cL_law 962 = .ok (.iload_n 3, 1) := by decide +kernel
theorem dL_law_963 : decode cL_law 963 = .ok (.iconst 3, 1) := by decide +kernel
theorem dL_law_964 : decode cL_law 964 = .ok (.iadd, 1) := by decide +kernel
theorem dL_law_965 : decode cL_law 965 = .ok (.iaload, 1) := by decide +kernel
theorem dL_law_966 : decode cL_law 966 = .ok (.aload_n 0, 1) := by decide +kernel
theorem dL_law_967 : decode cL_law 967 = .ok (.iload_n 3, 1) := by decide +kernel
theorem dL_law_968 : decode cL_law 968 = .ok (.iconst 4, 1) := by decide +kernel
theorem dL_law_969 : decode cL_law 969 = .ok (.iadd, 1) := by decide +kernel
theorem dL_law_970 : decode cL_law 970 = .ok (.iaload, 1) := by decide +kernel
theorem dL_law_971 : decode cL_law 971 = .ok (.invokevirtual 117, 3) := by decide +kernel
theorem dL_law_974 : decode cL_law 974 = .ok (.aload_n 2, 1) := by decide +kernel
theorem dL_law_975 : decode cL_law 975 = .ok (.aload_n 0, 1) := by decide +kernel
theorem dL_law_976 : decode cL_law 976 = .ok (.iload_n 3, 1) := by decide +kernel
theorem dL_law_977 : decode cL_law 977 = .ok (.iconst 1, 1) := by decide +kernel
theorem dL_law_978 : decode cL_law 978 = .ok (.iadd, 1) := by decide +kernel
theorem dL_law_979 : decode cL_law 979 = .ok (.iaload, 1) := by decide +kernel
theorem dL_law_980 : decode cL_law 980 = .ok (.aload_n 0, 1) := by decide +kernel
theorem dL_law_981 : decode cL_law 981 = .ok (.iload_n 3, 1) := by decide +kernel
theorem dL_law_982 : decode cL_law 982 = .ok (.iconst 2, 1) := by decide +kernel
theorem dL_law_983 : decode cL_law 983 = .ok (.iadd, 1) := by decide +kernel
theorem dL_law_984 : decode cL_law 984 = .ok (.iaload, 1) := by decide +kernel
theorem dL_law_985 : decode cL_law 985 = .ok (.aload_n 0, 1) := by decide +kernel
theorem dL_law_986 : decode cL_law 986 = .ok (.iload_n 3, 1) := by decide +kernel
theorem dL_law_987 : decode cL_law 987 = .ok (.iconst 3, 1) := by decide +kernel
theorem dL_law_988 : decode cL_law 988 = .ok (.iadd, 1) := by decide +kernel
theorem dL_law_989 : decode cL_law 989 = .ok (.iaload, 1) := by decide +kernel
theorem dL_law_990 : decode cL_law 990 = .ok (.aload_n 0, 1) := by decide +kernel
theorem dL_law_991 : decode cL_law 991 = .ok (.iload_n 3, 1) := by decide +kernel
theorem dL_law_992 : decode cL_law 992 = .ok (.iconst 4, 1) := by decide +kernel
theorem dL_law_993 : decode cL_law 993 = .ok (.iadd, 1) := by decide +kernel
theorem dL_law_994 : decode cL_law 994 = .ok (.iaload, 1) := by decide +kernel
theorem dL_law_995 : decode cL_law 995 = .ok (.invokevirtual 120, 3) := by decide +kernel
theorem dL_law_998 : decode cL_law 998 = .ok (.if_icmp .eq 301, 3) := by decide +kernel
theorem dL_law_1001 : decode cL_law 1001 = .ok (.iconst 0, 1) := by decide +kernel
theorem dL_law_1002 : decode cL_law 1002 = .ok (.ireturn, 1) := by decide +kernel
theorem dL_law_1003 : decode cL_law 1003 = .ok (.aload_n 1, 1) := by decide +kernel
theorem dL_law_1004 : decode cL_law 1004 = .ok (.aload_n 0, 1) := by decide +kernel
theorem dL_law_1005 : decode cL_law 1005 = .ok (.iload_n 3, 1) := by decide +kernel
theorem dL_law_1006 : decode cL_law 1006 = .ok (.iconst 1, 1) := by decide +kernel
theorem dL_law_1007 : decode cL_law 1007 = .ok (.iadd, 1) := by decide +kernel
theorem dL_law_1008 : decode cL_law 1008 = .ok (.iaload, 1) := by decide +kernel
theorem dL_law_1009 : decode cL_law 1009 = .ok (.aload_n 0, 1) := by decide +kernel
theorem dL_law_1010 : decode cL_law 1010 = .ok (.iload_n 3, 1) := by decide +kernel
theorem dL_law_1011 : decode cL_law 1011 = .ok (.iconst 2, 1) := by decide +kernel
theorem dL_law_1012 : decode cL_law 1012 = .ok (.iadd, 1) := by decide +kernel
theorem dL_law_1013 : decode cL_law 1013 = .ok (.iaload, 1) := by decide +kernel
theorem dL_law_1014 : decode cL_law 1014 = .ok (.aload_n 0, 1) := by decide +kernel
theorem dL_law_1015 : decode cL_law 1015 = .ok (.iload_n 3, 1) := by decide +kernel
theorem dL_law_1016 : decode cL_law 1016 = .ok (.iconst 3, 1) := by decide +kernel
theorem dL_law_1017 : decode cL_law 1017 = .ok (.iadd, 1) := by decide +kernel
theorem dL_law_1018 : decode cL_law 1018 = .ok (.iaload, 1) := by decide +kernel
theorem dL_law_1019 : decode cL_law 1019 = .ok (.invokevirtual 121, 3) := by decide +kernel
theorem dL_law_1022 : decode cL_law 1022 = .ok (.aload_n 2, 1) := by decide +kernel
theorem dL_law_1023 : decode cL_law 1023 = .ok (.aload_n 0, 1) := by decide +kernel
theorem dL_law_1024 : decode cL_law 1024 = .ok (.iload_n 3, 1) := by decide +kernel
theorem dL_law_1025 : decode cL_law 1025 = .ok (.iconst 1, 1) := by decide +kernel
theorem dL_law_1026 : decode cL_law 1026 = .ok (.iadd, 1) := by decide +kernel
theorem dL_law_1027 : decode cL_law 1027 = .ok (.iaload, 1) := by decide +kernel
theorem dL_law_1028 : decode cL_law 1028 = .ok (.aload_n 0, 1) := by decide +kernel
theorem dL_law_1029 : decode cL_law 1029 = .ok (.iload_n 3, 1) := by decide +kernel
theorem dL_law_1030 : decode cL_law 1030 = .ok (.iconst 2, 1) := by decide +kernel
theorem dL_law_1031 : decode cL_law 1031 = .ok (.iadd, 1) := by decide +kernel
theorem dL_law_1032 : decode cL_law 1032 = .ok (.iaload, 1) := by decide +kernel
theorem dL_law_1033 : decode cL_law 1033 = .ok (.aload_n 0, 1) := by decide +kernel
theorem dL_law_1034 : decode cL_law 1034 = .ok (.iload_n 3, 1) := by decide +kernel
theorem dL_law_1035 : decode cL_law 1035 = .ok (.iconst 3, 1) := by decide +kernel
theorem dL_law_1036 : decode cL_law 1036 = .ok (.iadd, 1) := by decide +kernel
theorem dL_law_1037 : decode cL_law 1037 = .ok (.iaload, 1) := by decide +kernel
theorem dL_law_1038 : decode cL_law 1038 = .ok (.invokevirtual 124, 3) := by decide +kernel
theorem dL_law_1041 : decode cL_law 1041 = .ok (.if_icmp .eq 258, 3) := by decide +kernel
theorem dL_law_1044 : decode cL_law 1044 = .ok (.iconst 0, 1) := by decide +kernel
theorem dL_law_1045 : decode cL_law 1045 = .ok (.ireturn, 1) := by decide +kernel
theorem dL_law_1046 : decode cL_law 1046 = .ok (.aload_n 1, 1) := by decide +kernel
theorem dL_law_1047 : decode cL_law 1047 = .ok (.aload_n 0, 1) := by decide +kernel
theorem dL_law_1048 : decode cL_law 1048 = .ok (.iload_n 3, 1) := by decide +kernel
theorem dL_law_1049 : decode cL_law 1049 = .ok (.iconst 1, 1) := by decide +kernel
theorem dL_law_1050 : decode cL_law 1050 = .ok (.iadd, 1) := by decide +kernel
theorem dL_law_1051 : decode cL_law 1051 = .ok (.iaload, 1) := by decide +kernel
theorem dL_law_1052 : decode cL_law 1052 = .ok (.aload_n 0, 1) := by decide +kernel
theorem dL_law_1053 : decode cL_law 1053 = .ok (.iload_n 3, 1) := by decide +kernel
theorem dL_law_1054 : decode cL_law 1054 = .ok (.iconst 2, 1) := by decide +kernel
theorem dL_law_1055 : decode cL_law 1055 = .ok (.iadd, 1) := by decide +kernel
theorem dL_law_1056 : decode cL_law 1056 = .ok (.iaload, 1) := by decide +kernel
theorem dL_law_1057 : decode cL_law 1057 = .ok (.invokevirtual 125, 3) := by decide +kernel
theorem dL_law_1060 : decode cL_law 1060 = .ok (.aload_n 2, 1) := by decide +kernel
theorem dL_law_1061 : decode cL_law 1061 = .ok (.aload_n 0, 1) := by decide +kernel
theorem dL_law_1062 : decode cL_law 1062 = .ok (.iload_n 3, 1) := by decide +kernel
theorem dL_law_1063 : decode cL_law 1063 = .ok (.iconst 1, 1) := by decide +kernel
theorem dL_law_1064 : decode cL_law 1064 = .ok (.iadd, 1) := by decide +kernel
theorem dL_law_1065 : decode cL_law 1065 = .ok (.iaload, 1) := by decide +kernel
theorem dL_law_1066 : decode cL_law 1066 = .ok (.aload_n 0, 1) := by decide +kernel
theorem dL_law_1067 : decode cL_law 1067 = .ok (.iload_n 3, 1) := by decide +kernel
theorem dL_law_1068 : decode cL_law 1068 = .ok (.iconst 2, 1) := by decide +kernel
theorem dL_law_1069 : decode cL_law 1069 = .ok (.iadd, 1) := by decide +kernel
theorem dL_law_1070 : decode cL_law 1070 = .ok (.iaload, 1) := by decide +kernel
theorem dL_law_1071 : decode cL_law 1071 = .ok (.invokevirtual 128, 3) := by decide +kernel
theorem dL_law_1074 : decode cL_law 1074 = .ok (.if_icmp .eq 225, 3) := by decide +kernel
theorem dL_law_1077 : decode cL_law 1077 = .ok (.iconst 0, 1) := by decide +kernel
theorem dL_law_1078 : decode cL_law 1078 = .ok (.ireturn, 1) := by decide +kernel
theorem dL_law_1079 : decode cL_law 1079 = .ok (.aload_n 1, 1) := by decide +kernel
theorem dL_law_1080 : decode cL_law 1080 = .ok (.invokevirtual 129, 3) := by decide +kernel
theorem dL_law_1083 : decode cL_law 1083 = .ok (.aload_n 2, 1) := by decide +kernel
theorem dL_law_1084 : decode cL_law 1084 = .ok (.invokevirtual 133, 3) := by decide +kernel
theorem dL_law_1087 : decode cL_law 1087 = .ok (.if_icmp .eq 212, 3) := by decide +kernel
theorem dL_law_1090 : decode cL_law 1090 = .ok (.iconst 0, 1) := by decide +kernel
theorem dL_law_1091 : decode cL_law 1091 = .ok (.ireturn, 1) := by decide +kernel
theorem dL_law_1092 : decode cL_law 1092 = .ok (.aload_n 1, 1) := by decide +kernel
theorem dL_law_1093 : decode cL_law 1093 = .ok (.aload_n 0, 1) := by decide +kernel
theorem dL_law_1094 : decode cL_law 1094 = .ok (.iload_n 3, 1) := by decide +kernel
theorem dL_law_1095 : decode cL_law 1095 = .ok (.iconst 1, 1) := by decide +kernel
theorem dL_law_1096 : decode cL_law 1096 = .ok (.iadd, 1) := by decide +kernel
theorem dL_law_1097 : decode cL_law 1097 = .ok (.iaload, 1) := by decide +kernel
theorem dL_law_1098 : decode cL_law 1098 = .ok (.aload_n 0, 1) := by decide +kernel
theorem dL_law_1099 : decode cL_law 1099 = .ok (.iload_n 3, 1) := by decide +kernel
theorem dL_law_1100 : decode cL_law 1100 = .ok (.iconst 2, 1) := by decide +kernel
theorem dL_law_1101 : decode cL_law 1101 = .ok (.iadd, 1) := by decide +kernel
theorem dL_law_1102 : decode cL_law 1102 = .ok (.iaload, 1) := by decide +kernel
theorem dL_law_1103 : decode cL_law 1103 = .ok (.aload_n 0, 1) := by decide +kernel
theorem dL_law_1104 : decode cL_law 1104 = .ok (.iload_n 3, 1) := by decide +kernel
theorem dL_law_1105 : decode cL_law 1105 = .ok (.iconst 3, 1) := by decide +kernel
theorem dL_law_1106 : decode cL_law 1106 = .ok (.iadd, 1) := by decide +kernel
theorem dL_law_1107 : decode cL_law 1107 = .ok (.iaload, 1) := by decide +kernel
theorem dL_law_1108 : decode cL_law 1108 = .ok (.invokevirtual 134, 3) := by decide +kernel
theorem dL_law_1111 : decode cL_law 1111 = .ok (.aload_n 2, 1) := by decide +kernel
theorem dL_law_1112 : decode cL_law 1112 = .ok (.aload_n 0, 1) := by decide +kernel
theorem dL_law_1113 : decode cL_law 1113 = .ok (.iload_n 3, 1) := by decide +kernel
theorem dL_law_1114 : decode cL_law 1114 = .ok (.iconst 1, 1) := by decide +kernel
theorem dL_law_1115 : decode cL_law 1115 = .ok (.iadd, 1) := by decide +kernel
theorem dL_law_1116 : decode cL_law 1116 = .ok (.iaload, 1) := by decide +kernel
theorem dL_law_1117 : decode cL_law 1117 = .ok (.aload_n 0, 1) := by decide +kernel
theorem dL_law_1118 : decode cL_law 1118 = .ok (.iload_n 3, 1) := by decide +kernel
theorem dL_law_1119 : decode cL_law 1119 = .ok (.iconst 2, 1) := by decide +kernel
theorem dL_law_1120 : decode cL_law 1120 = .ok (.iadd, 1) := by decide +kernel
theorem dL_law_1121 : decode cL_law 1121 = .ok (.iaload, 1) := by decide +kernel
theorem dL_law_1122 : decode cL_law 1122 = .ok (.aload_n 0, 1) := by decide +kernel
theorem dL_law_1123 : decode cL_law 1123 = .ok (.iload_n 3, 1) := by decide +kernel
theorem dL_law_1124 : decode cL_law 1124 = .ok (.iconst 3, 1) := by decide +kernel
theorem dL_law_1125 : decode cL_law 1125 = .ok (.iadd, 1) := by decide +kernel
theorem dL_law_1126 : decode cL_law 1126 = .ok (.iaload, 1) := by decide +kernel
theorem dL_law_1127 : decode cL_law 1127 = .ok (.invokevirtual 137, 3) := by decide +kernel
theorem dL_law_1130 : decode cL_law 1130 = .ok (.if_icmp .eq 169, 3) := by decide +kernel
theorem dL_law_1133 : decode cL_law 1133 = .ok (.iconst 0, 1) := by decide +kernel
theorem dL_law_1134 : decode cL_law 1134 = .ok (.ireturn, 1) := by decide +kernel
theorem dL_law_1135 : decode cL_law 1135 = .ok (.aload_n 1, 1) := by decide +kernel
theorem dL_law_1136 : decode cL_law 1136 = .ok (.aload_n 0, 1) := by decide +kernel
theorem dL_law_1137 : decode cL_law 1137 = .ok (.iload_n 3, 1) := by decide +kernel
theorem dL_law_1138 : decode cL_law 1138 = .ok (.iconst 1, 1) := by decide +kernel
theorem dL_law_1139 : decode cL_law 1139 = .ok (.iadd, 1) := by decide +kernel
theorem dL_law_1140 : decode cL_law 1140 = .ok (.iaload, 1) := by decide +kernel
theorem dL_law_1141 : decode cL_law 1141 = .ok (.invokevirtual 138, 3) := by decide +kernel
theorem dL_law_1144 : decode cL_law 1144 = .ok (.aload_n 2, 1) := by decide +kernel
theorem dL_law_1145 : decode cL_law 1145 = .ok (.aload_n 0, 1) := by decide +kernel
theorem dL_law_1146 : decode cL_law 1146 = .ok (.iload_n 3, 1) := by decide +kernel
theorem dL_law_1147 : decode cL_law 1147 = .ok (.iconst 1, 1) := by decide +kernel
theorem dL_law_1148 : decode cL_law 1148 = .ok (.iadd, 1) := by decide +kernel
theorem dL_law_1149 : decode cL_law 1149 = .ok (.iaload, 1) := by decide +kernel
theorem dL_law_1150 : decode cL_law 1150 = .ok (.invokevirtual 141, 3) := by decide +kernel
theorem dL_law_1153 : decode cL_law 1153 = .ok (.if_icmp .eq 146, 3) := by decide +kernel
theorem dL_law_1156 : decode cL_law 1156 = .ok (.iconst 0, 1) := by decide +kernel
theorem dL_law_1157 : decode cL_law 1157 = .ok (.ireturn, 1) := by decide +kernel
theorem dL_law_1158 : decode cL_law 1158 = .ok (.aload_n 1, 1) := by decide +kernel
theorem dL_law_1159 : decode cL_law 1159 = .ok (.aload_n 0, 1) := by decide +kernel
theorem dL_law_1160 : decode cL_law 1160 = .ok (.iload_n 3, 1) := by decide +kernel
theorem dL_law_1161 : decode cL_law 1161 = .ok (.iconst 1, 1) := by decide +kernel
theorem dL_law_1162 : decode cL_law 1162 = .ok (.iadd, 1) := by decide +kernel
theorem dL_law_1163 : decode cL_law 1163 = .ok (.iaload, 1) := by decide +kernel
theorem dL_law_1164 : decode cL_law 1164 = .ok (.invokevirtual 142, 3) := by decide +kernel
theorem dL_law_1167 : decode cL_law 1167 = .ok (.aload_n 2, 1) := by decide +kernel
theorem dL_law_1168 : decode cL_law 1168 = .ok (.aload_n 0, 1) := by decide +kernel
theorem dL_law_1169 : decode cL_law 1169 = .ok (.iload_n 3, 1) := by decide +kernel
theorem dL_law_1170 : decode cL_law 1170 = .ok (.iconst 1, 1) := by decide +kernel
theorem dL_law_1171 : decode cL_law 1171 = .ok (.iadd, 1) := by decide +kernel
theorem dL_law_1172 : decode cL_law 1172 = .ok (.iaload, 1) := by decide +kernel
theorem dL_law_1173 : decode cL_law 1173 = .ok (.invokevirtual 145, 3) := by decide +kernel
theorem dL_law_1176 : decode cL_law 1176 = .ok (.if_icmp .eq 123, 3) := by decide +kernel
theorem dL_law_1179 : decode cL_law 1179 = .ok (.iconst 0, 1) := by decide +kernel
theorem dL_law_1180 : decode cL_law 1180 = .ok (.ireturn, 1) := by decide +kernel
theorem dL_law_1181 : decode cL_law 1181 = .ok (.aload_n 1, 1) := by decide +kernel
theorem dL_law_1182 : decode cL_law 1182 = .ok (.aload_n 0, 1) := by decide +kernel
theorem dL_law_1183 : decode cL_law 1183 = .ok (.iload_n 3, 1) := by decide +kernel
theorem dL_law_1184 : decode cL_law 1184 = .ok (.iconst 1, 1) := by decide +kernel
theorem dL_law_1185 : decode cL_law 1185 = .ok (.iadd, 1) := by decide +kernel
theorem dL_law_1186 : decode cL_law 1186 = .ok (.iaload, 1) := by decide +kernel
theorem dL_law_1187 : decode cL_law 1187 = .ok (.aload_n 0, 1) := by decide +kernel
theorem dL_law_1188 : decode cL_law 1188 = .ok (.iload_n 3, 1) := by decide +kernel
theorem dL_law_1189 : decode cL_law 1189 = .ok (.iconst 2, 1) := by decide +kernel
theorem dL_law_1190 : decode cL_law 1190 = .ok (.iadd, 1) := by decide +kernel
theorem dL_law_1191 : decode cL_law 1191 = .ok (.iaload, 1) := by decide +kernel
theorem dL_law_1192 : decode cL_law 1192 = .ok (.aload_n 0, 1) := by decide +kernel
theorem dL_law_1193 : decode cL_law 1193 = .ok (.iload_n 3, 1) := by decide +kernel
theorem dL_law_1194 : decode cL_law 1194 = .ok (.iconst 3, 1) := by decide +kernel
theorem dL_law_1195 : decode cL_law 1195 = .ok (.iadd, 1) := by decide +kernel
theorem dL_law_1196 : decode cL_law 1196 = .ok (.iaload, 1) := by decide +kernel
theorem dL_law_1197 : decode cL_law 1197 = .ok (.invokevirtual 146, 3) := by decide +kernel
theorem dL_law_1200 : decode cL_law 1200 = .ok (.aload_n 2, 1) := by decide +kernel
theorem dL_law_1201 : decode cL_law 1201 = .ok (.aload_n 0, 1) := by decide +kernel
theorem dL_law_1202 : decode cL_law 1202 = .ok (.iload_n 3, 1) := by decide +kernel
theorem dL_law_1203 : decode cL_law 1203 = .ok (.iconst 1, 1) := by decide +kernel
theorem dL_law_1204 : decode cL_law 1204 = .ok (.iadd, 1) := by decide +kernel
theorem dL_law_1205 : decode cL_law 1205 = .ok (.iaload, 1) := by decide +kernel
theorem dL_law_1206 : decode cL_law 1206 = .ok (.aload_n 0, 1) := by decide +kernel
theorem dL_law_1207 : decode cL_law 1207 = .ok (.iload_n 3, 1) := by decide +kernel
theorem dL_law_1208 : decode cL_law 1208 = .ok (.iconst 2, 1) := by decide +kernel
theorem dL_law_1209 : decode cL_law 1209 = .ok (.iadd, 1) := by decide +kernel
theorem dL_law_1210 : decode cL_law 1210 = .ok (.iaload, 1) := by decide +kernel
theorem dL_law_1211 : decode cL_law 1211 = .ok (.aload_n 0, 1) := by decide +kernel
theorem dL_law_1212 : decode cL_law 1212 = .ok (.iload_n 3, 1) := by decide +kernel
theorem dL_law_1213 : decode cL_law 1213 = .ok (.iconst 3, 1) := by decide +kernel
theorem dL_law_1214 : decode cL_law 1214 = .ok (.iadd, 1) := by decide +kernel
theorem dL_law_1215 : decode cL_law 1215 = .ok (.iaload, 1) := by decide +kernel
theorem dL_law_1216 : decode cL_law 1216 = .ok (.invokevirtual 149, 3) := by decide +kernel
theorem dL_law_1219 : decode cL_law 1219 = .ok (.if_icmp .eq 80, 3) := by decide +kernel
theorem dL_law_1222 : decode cL_law 1222 = .ok (.iconst 0, 1) := by decide +kernel
theorem dL_law_1223 : decode cL_law 1223 = .ok (.ireturn, 1) := by decide +kernel
theorem dL_law_1224 : decode cL_law 1224 = .ok (.aload_n 1, 1) := by decide +kernel
theorem dL_law_1225 : decode cL_law 1225 = .ok (.invokevirtual 150, 3) := by decide +kernel
theorem dL_law_1228 : decode cL_law 1228 = .ok (.aload_n 2, 1) := by decide +kernel
theorem dL_law_1229 : decode cL_law 1229 = .ok (.invokevirtual 154, 3) := by decide +kernel
theorem dL_law_1232 : decode cL_law 1232 = .ok (.if_icmp .eq 67, 3) := by decide +kernel
theorem dL_law_1235 : decode cL_law 1235 = .ok (.iconst 0, 1) := by decide +kernel
theorem dL_law_1236 : decode cL_law 1236 = .ok (.ireturn, 1) := by decide +kernel
theorem dL_law_1237 : decode cL_law 1237 = .ok (.aload_n 1, 1) := by decide +kernel
theorem dL_law_1238 : decode cL_law 1238 = .ok (.aload_n 0, 1) := by decide +kernel
theorem dL_law_1239 : decode cL_law 1239 = .ok (.iload_n 3, 1) := by decide +kernel
theorem dL_law_1240 : decode cL_law 1240 = .ok (.iconst 1, 1) := by decide +kernel
theorem dL_law_1241 : decode cL_law 1241 = .ok (.iadd, 1) := by decide +kernel
theorem dL_law_1242 : decode cL_law 1242 = .ok (.iaload, 1) := by decide +kernel
theorem dL_law_1243 : decode cL_law 1243 = .ok (.ifCond .eq 7, 3) := by decide +kernel
theorem dL_law_1246 : decode cL_law 1246 = .ok (.iconst 1, 1) := by decide +kernel
theorem dL_law_1247 : decode cL_law 1247 = .ok (.goto 4, 3) := by decide +kernel
theorem dL_law_1250 : decode cL_law 1250 = .ok (.iconst 0, 1) := by decide +kernel
theorem dL_law_1251 : decode cL_law 1251 = .ok (.invokevirtual 155, 3) := by decide +kernel
theorem dL_law_1254 : decode cL_law 1254 = .ok (.aload_n 2, 1) := by decide +kernel
theorem dL_law_1255 : decode cL_law 1255 = .ok (.aload_n 0, 1) := by decide +kernel
theorem dL_law_1256 : decode cL_law 1256 = .ok (.iload_n 3, 1) := by decide +kernel
theorem dL_law_1257 : decode cL_law 1257 = .ok (.iconst 1, 1) := by decide +kernel
theorem dL_law_1258 : decode cL_law 1258 = .ok (.iadd, 1) := by decide +kernel
theorem dL_law_1259 : decode cL_law 1259 = .ok (.iaload, 1) := by decide +kernel
theorem dL_law_1260 : decode cL_law 1260 = .ok (.ifCond .eq 7, 3) := by decide +kernel
theorem dL_law_1263 : decode cL_law 1263 = .ok (.iconst 1, 1) := by decide +kernel
theorem dL_law_1264 : decode cL_law 1264 = .ok (.goto 4, 3) := by decide +kernel
theorem dL_law_1267 : decode cL_law 1267 = .ok (.iconst 0, 1) := by decide +kernel
theorem dL_law_1268 : decode cL_law 1268 = .ok (.invokevirtual 159, 3) := by decide +kernel
theorem dL_law_1271 : decode cL_law 1271 = .ok (.if_icmp .eq 28, 3) := by decide +kernel
theorem dL_law_1274 : decode cL_law 1274 = .ok (.iconst 0, 1) := by decide +kernel
theorem dL_law_1275 : decode cL_law 1275 = .ok (.ireturn, 1) := by decide +kernel
theorem dL_law_1276 : decode cL_law 1276 = .ok (.aload_n 1, 1) := by decide +kernel
theorem dL_law_1277 : decode cL_law 1277 = .ok (.aload_n 0, 1) := by decide +kernel
theorem dL_law_1278 : decode cL_law 1278 = .ok (.iload_n 3, 1) := by decide +kernel
theorem dL_law_1279 : decode cL_law 1279 = .ok (.iconst 1, 1) := by decide +kernel
theorem dL_law_1280 : decode cL_law 1280 = .ok (.iadd, 1) := by decide +kernel
theorem dL_law_1281 : decode cL_law 1281 = .ok (.iaload, 1) := by decide +kernel
theorem dL_law_1282 : decode cL_law 1282 = .ok (.invokevirtual 160, 3) := by decide +kernel
theorem dL_law_1285 : decode cL_law 1285 = .ok (.aload_n 2, 1) := by decide +kernel
theorem dL_law_1286 : decode cL_law 1286 = .ok (.aload_n 0, 1) := by decide +kernel
theorem dL_law_1287 : decode cL_law 1287 = .ok (.iload_n 3, 1) := by decide +kernel
theorem dL_law_1288 : decode cL_law 1288 = .ok (.iconst 1, 1) := by decide +kernel
theorem dL_law_1289 : decode cL_law 1289 = .ok (.iadd, 1) := by decide +kernel
theorem dL_law_1290 : decode cL_law 1290 = .ok (.iaload, 1) := by decide +kernel
theorem dL_law_1291 : decode cL_law 1291 = .ok (.invokevirtual 163, 3) := by decide +kernel
theorem dL_law_1294 : decode cL_law 1294 = .ok (.if_icmp .eq 5, 3) := by decide +kernel
theorem dL_law_1297 : decode cL_law 1297 = .ok (.iconst 0, 1) := by decide +kernel
theorem dL_law_1298 : decode cL_law 1298 = .ok (.ireturn, 1) := by decide +kernel
theorem dL_law_1299 : decode cL_law 1299 = .ok (.iinc 3 6, 3) := by decide +kernel
theorem dL_law_1302 : decode cL_law 1302 = .ok (.goto (-1284), 3) := by decide +kernel
theorem dL_law_1305 : decode cL_law 1305 = .ok (.iconst 1, 1) := by decide +kernel
theorem dL_law_1306 : decode cL_law 1306 = .ok (.ireturn, 1) := by decide +kernel
theorem ic_16 : Int32.ofInt 16 = (16 : Int32) := by decide
theorem ic_17 : Int32.ofInt 17 = (17 : Int32) := by decide
theorem ic_18 : Int32.ofInt 18 = (18 : Int32) := by decide
theorem ic_19 : Int32.ofInt 19 = (19 : Int32) := by decide
theorem ic_20 : Int32.ofInt 20 = (20 : Int32) := by decide
theorem ic_21 : Int32.ofInt 21 = (21 : Int32) := by decide
theorem ic_22 : Int32.ofInt 22 = (22 : Int32) := by decide
theorem ic_23 : Int32.ofInt 23 = (23 : Int32) := by decide
theorem ic_24 : Int32.ofInt 24 = (24 : Int32) := by decide
theorem ic_25 : Int32.ofInt 25 = (25 : Int32) := by decide
theorem ic_26 : Int32.ofInt 26 = (26 : Int32) := by decide
theorem ic_27 : Int32.ofInt 27 = (27 : Int32) := by decide
theorem ic_28 : Int32.ofInt 28 = (28 : Int32) := by decide
theorem ic_29 : Int32.ofInt 29 = (29 : Int32) := by decide
theorem ic_30 : Int32.ofInt 30 = (30 : Int32) := by decide
theorem ic_31 : Int32.ofInt 31 = (31 : Int32) := by decide
theorem ic_32 : Int32.ofInt 32 = (32 : Int32) := by decide
theorem ic_33 : Int32.ofInt 33 = (33 : Int32) := by decide
theorem ic_34 : Int32.ofInt 34 = (34 : Int32) := by decide
theorem wc_X10_state : Cond.code yX10_state cX10_state 3 (some .int) ∈ nd_tbl := nd_ti (i := 340) (by decide +kernel) rfl
theorem ok_X10_state : nd_okN M_X10_state 1 := ⟨wc_X10_state, wn_X10, by decide +kernel, by decide +kernel, by decide +kernel⟩
theorem wi_X10_state : Cond.instanceMethod yX10_state ∈ nd_tbl := nd_ti (i := 338) (by decide +kernel) rfl
theorem wl_X10_state : Cond.selects RX10 yX10_state yX10_state ∈ nd_tbl := nd_ti (i := 339) (by decide +kernel) rfl
theorem cl_L_13 : nd_cv RL 13 M_X10_state 1 9 := ⟨ok_X10_state, wi_X10_state, wl_X10_state, nd_ti (i := 337) (by decide +kernel) rfl, TX10, 11, rfl⟩
theorem wc_X11_state : Cond.code yX11_state cX11_state 3 (some .int) ∈ nd_tbl := nd_ti (i := 1355) (by decide +kernel) rfl
theorem ok_X11_state : nd_okN M_X11_state 1 := ⟨wc_X11_state, wn_X11, by decide +kernel, by decide +kernel, by decide +kernel⟩
theorem wi_X11_state : Cond.instanceMethod yX11_state ∈ nd_tbl := nd_ti (i := 1353) (by decide +kernel) rfl
theorem wl_X11_state : Cond.selects RX11 yX11_state yX11_state ∈ nd_tbl := nd_ti (i := 1354) (by decide +kernel) rfl
theorem cl_L_17 : nd_cv RL 17 M_X11_state 1 10 := ⟨ok_X11_state, wi_X11_state, wl_X11_state, nd_ti (i := 1352) (by decide +kernel) rfl, TX11, 69, rfl⟩
theorem wc_X10_house : Cond.code yX10_house cX10_house 5 (some .int) ∈ nd_tbl := nd_ti (i := 348) (by decide +kernel) rfl
theorem ok_X10_house : nd_okN M_X10_house 3 := ⟨wc_X10_house, wn_X10, by decide +kernel, by decide +kernel, by decide +kernel⟩
theorem wi_X10_house : Cond.instanceMethod yX10_house ∈ nd_tbl := nd_ti (i := 346) (by decide +kernel) rfl
theorem wl_X10_house : Cond.selects RX10 yX10_house yX10_house ∈ nd_tbl := nd_ti (i := 347) (by decide +kernel) rfl
theorem cl_L_18 : nd_cv RL 18 M_X10_house 3 9 := ⟨ok_X10_house, wi_X10_house, wl_X10_house, nd_ti (i := 345) (by decide +kernel) rfl, TX10, 11, rfl⟩
theorem wc_X11_house : Cond.code yX11_house cX11_house 4 (some .int) ∈ nd_tbl := nd_ti (i := 1359) (by decide +kernel) rfl
theorem ok_X11_house : nd_okN M_X11_house 3 := ⟨wc_X11_house, wn_X11, by decide +kernel, by decide +kernel, by decide +kernel⟩
theorem wi_X11_house : Cond.instanceMethod yX11_house ∈ nd_tbl := nd_ti (i := 1357) (by decide +kernel) rfl
theorem wl_X11_house : Cond.selects RX11 yX11_house yX11_house ∈ nd_tbl := nd_ti (i := 1358) (by decide +kernel) rfl
theorem cl_L_22 : nd_cv RL 22 M_X11_house 3 10 := ⟨ok_X11_house, wi_X11_house, wl_X11_house, nd_ti (i := 1356) (by decide +kernel) rfl, TX11, 69, rfl⟩
theorem wc_X10_set : Cond.code yX10_set cX10_set 4 (some .boolean) ∈ nd_tbl := nd_ti (i := 365) (by decide +kernel) rfl
theorem ok_X10_set : nd_okN M_X10_set 3 := ⟨wc_X10_set, wn_X10, by decide +kernel, by decide +kernel, by decide +kernel⟩
theorem wi_X10_set : Cond.instanceMethod yX10_set ∈ nd_tbl := nd_ti (i := 363) (by decide +kernel) rfl
theorem wl_X10_set : Cond.selects RX10 yX10_set yX10_set ∈ nd_tbl := nd_ti (i := 364) (by decide +kernel) rfl
theorem cl_L_23 : nd_cv RL 23 M_X10_set 3 9 := ⟨ok_X10_set, wi_X10_set, wl_X10_set, nd_ti (i := 362) (by decide +kernel) rfl, TX10, 11, rfl⟩
theorem wc_X11_set : Cond.code yX11_set cX11_set 4 (some .boolean) ∈ nd_tbl := nd_ti (i := 1367) (by decide +kernel) rfl
theorem ok_X11_set : nd_okN M_X11_set 3 := ⟨wc_X11_set, wn_X11, by decide +kernel, by decide +kernel, by decide +kernel⟩
theorem wi_X11_set : Cond.instanceMethod yX11_set ∈ nd_tbl := nd_ti (i := 1365) (by decide +kernel) rfl
theorem wl_X11_set : Cond.selects RX11 yX11_set yX11_set ∈ nd_tbl := nd_ti (i := 1366) (by decide +kernel) rfl
theorem cl_L_27 : nd_cv RL 27 M_X11_set 3 10 := ⟨ok_X11_set, wi_X11_set, wl_X11_set, nd_ti (i := 1364) (by decide +kernel) rfl, TX11, 69, rfl⟩
theorem wc_X10_act : Cond.code yX10_act cX10_act 3 (some .boolean) ∈ nd_tbl := nd_ti (i := 375) (by decide +kernel) rfl
theorem ok_X10_act : nd_okN M_X10_act 2 := ⟨wc_X10_act, wn_X10, by decide +kernel, by decide +kernel, by decide +kernel⟩
theorem wi_X10_act : Cond.instanceMethod yX10_act ∈ nd_tbl := nd_ti (i := 373) (by decide +kernel) rfl
theorem wl_X10_act : Cond.selects RX10 yX10_act yX10_act ∈ nd_tbl := nd_ti (i := 374) (by decide +kernel) rfl
theorem cl_L_28 : nd_cv RL 28 M_X10_act 2 9 := ⟨ok_X10_act, wi_X10_act, wl_X10_act, nd_ti (i := 372) (by decide +kernel) rfl, TX10, 11, rfl⟩
theorem wc_X11_act : Cond.code yX11_act cX11_act 3 (some .boolean) ∈ nd_tbl := nd_ti (i := 1523) (by decide +kernel) rfl
theorem ok_X11_act : nd_okN M_X11_act 2 := ⟨wc_X11_act, wn_X11, by decide +kernel, by decide +kernel, by decide +kernel⟩
theorem wi_X11_act : Cond.instanceMethod yX11_act ∈ nd_tbl := nd_ti (i := 1521) (by decide +kernel) rfl
theorem wl_X11_act : Cond.selects RX11 yX11_act yX11_act ∈ nd_tbl := nd_ti (i := 1522) (by decide +kernel) rfl
theorem cl_L_32 : nd_cv RL 32 M_X11_act 2 10 := ⟨ok_X11_act, wi_X11_act, wl_X11_act, nd_ti (i := 1520) (by decide +kernel) rfl, TX11, 69, rfl⟩
theorem wc_X10_years : Cond.code yX10_years cX10_years 4 (some .int) ∈ nd_tbl := nd_ti (i := 471) (by decide +kernel) rfl
theorem ok_X10_years : nd_okN M_X10_years 1 := ⟨wc_X10_years, wn_X10, by decide +kernel, by decide +kernel, by decide +kernel⟩
theorem wi_X10_years : Cond.instanceMethod yX10_years ∈ nd_tbl := nd_ti (i := 469) (by decide +kernel) rfl
theorem wl_X10_years : Cond.selects RX10 yX10_years yX10_years ∈ nd_tbl := nd_ti (i := 470) (by decide +kernel) rfl
theorem cl_L_33 : nd_cv RL 33 M_X10_years 1 9 := ⟨ok_X10_years, wi_X10_years, wl_X10_years, nd_ti (i := 468) (by decide +kernel) rfl, TX10, 11, rfl⟩
theorem wc_X11_years : Cond.code yX11_years cX11_years 4 (some .int) ∈ nd_tbl := nd_ti (i := 1591) (by decide +kernel) rfl
theorem ok_X11_years : nd_okN M_X11_years 1 := ⟨wc_X11_years, wn_X11, by decide +kernel, by decide +kernel, by decide +kernel⟩
theorem wi_X11_years : Cond.instanceMethod yX11_years ∈ nd_tbl := nd_ti (i := 1589) (by decide +kernel) rfl
theorem wl_X11_years : Cond.selects RX11 yX11_years yX11_years ∈ nd_tbl := nd_ti (i := 1590) (by decide +kernel) rfl
theorem cl_L_36 : nd_cv RL 36 M_X11_years 1 10 := ⟨ok_X11_years, wi_X11_years, wl_X11_years, nd_ti (i := 1588) (by decide +kernel) rfl, TX11, 69, rfl⟩
theorem wc_X10_feed : Cond.code yX10_feed cX10_feed 6 (some .int) ∈ nd_tbl := nd_ti (i := 509) (by decide +kernel) rfl
theorem ok_X10_feed : nd_okN M_X10_feed 5 := ⟨wc_X10_feed, wn_X10, by decide +kernel, by decide +kernel, by decide +kernel⟩
theorem wi_X10_feed : Cond.instanceMethod yX10_feed ∈ nd_tbl := nd_ti (i := 507) (by decide +kernel) rfl
theorem wl_X10_feed : Cond.selects RX10 yX10_feed yX10_feed ∈ nd_tbl := nd_ti (i := 508) (by decide +kernel) rfl
theorem cl_L_37 : nd_cv RL 37 M_X10_feed 5 9 := ⟨ok_X10_feed, wi_X10_feed, wl_X10_feed, nd_ti (i := 506) (by decide +kernel) rfl, TX10, 11, rfl⟩
theorem wc_X11_feed : Cond.code yX11_feed cX11_feed 6 (some .int) ∈ nd_tbl := nd_ti (i := 1375) (by decide +kernel) rfl
theorem ok_X11_feed : nd_okN M_X11_feed 5 := ⟨wc_X11_feed, wn_X11, by decide +kernel, by decide +kernel, by decide +kernel⟩
theorem wi_X11_feed : Cond.instanceMethod yX11_feed ∈ nd_tbl := nd_ti (i := 1373) (by decide +kernel) rfl
theorem wl_X11_feed : Cond.selects RX11 yX11_feed yX11_feed ∈ nd_tbl := nd_ti (i := 1374) (by decide +kernel) rfl
theorem cl_L_41 : nd_cv RL 41 M_X11_feed 5 10 := ⟨ok_X11_feed, wi_X11_feed, wl_X11_feed, nd_ti (i := 1372) (by decide +kernel) rfl, TX11, 69, rfl⟩
theorem wc_X10_end : Cond.code yX10_end cX10_end 2 (some .boolean) ∈ nd_tbl := nd_ti (i := 521) (by decide +kernel) rfl
theorem ok_X10_end : nd_okN M_X10_end 1 := ⟨wc_X10_end, wn_X10, by decide +kernel, by decide +kernel, by decide +kernel⟩
theorem wi_X10_end : Cond.instanceMethod yX10_end ∈ nd_tbl := nd_ti (i := 519) (by decide +kernel) rfl
theorem wl_X10_end : Cond.selects RX10 yX10_end yX10_end ∈ nd_tbl := nd_ti (i := 520) (by decide +kernel) rfl
theorem cl_L_42 : nd_cv RL 42 M_X10_end 1 9 := ⟨ok_X10_end, wi_X10_end, wl_X10_end, nd_ti (i := 518) (by decide +kernel) rfl, TX10, 11, rfl⟩
theorem wc_X11_end : Cond.code yX11_end cX11_end 2 (some .boolean) ∈ nd_tbl := nd_ti (i := 1383) (by decide +kernel) rfl
theorem ok_X11_end : nd_okN M_X11_end 1 := ⟨wc_X11_end, wn_X11, by decide +kernel, by decide +kernel, by decide +kernel⟩
theorem wi_X11_end : Cond.instanceMethod yX11_end ∈ nd_tbl := nd_ti (i := 1381) (by decide +kernel) rfl
theorem wl_X11_end : Cond.selects RX11 yX11_end yX11_end ∈ nd_tbl := nd_ti (i := 1382) (by decide +kernel) rfl
theorem cl_L_46 : nd_cv RL 46 M_X11_end 1 10 := ⟨ok_X11_end, wi_X11_end, wl_X11_end, nd_ti (i := 1380) (by decide +kernel) rfl, TX11, 69, rfl⟩
theorem wc_X10_text : Cond.code yX10_text cX10_text 3 (some .int) ∈ nd_tbl := nd_ti (i := 529) (by decide +kernel) rfl
theorem ok_X10_text : nd_okN M_X10_text 1 := ⟨wc_X10_text, wn_X10, by decide +kernel, by decide +kernel, by decide +kernel⟩
theorem wi_X10_text : Cond.instanceMethod yX10_text ∈ nd_tbl := nd_ti (i := 527) (by decide +kernel) rfl
theorem wl_X10_text : Cond.selects RX10 yX10_text yX10_text ∈ nd_tbl := nd_ti (i := 528) (by decide +kernel) rfl
theorem cl_L_47 : nd_cv RL 47 M_X10_text 1 9 := ⟨ok_X10_text, wi_X10_text, wl_X10_text, nd_ti (i := 526) (by decide +kernel) rfl, TX10, 11, rfl⟩
theorem wc_X11_text : Cond.code yX11_text cX11_text 3 (some .int) ∈ nd_tbl := nd_ti (i := 1387) (by decide +kernel) rfl
theorem ok_X11_text : nd_okN M_X11_text 1 := ⟨wc_X11_text, wn_X11, by decide +kernel, by decide +kernel, by decide +kernel⟩
theorem wi_X11_text : Cond.instanceMethod yX11_text ∈ nd_tbl := nd_ti (i := 1385) (by decide +kernel) rfl
theorem wl_X11_text : Cond.selects RX11 yX11_text yX11_text ∈ nd_tbl := nd_ti (i := 1386) (by decide +kernel) rfl
theorem cl_L_50 : nd_cv RL 50 M_X11_text 1 10 := ⟨ok_X11_text, wi_X11_text, wl_X11_text, nd_ti (i := 1384) (by decide +kernel) rfl, TX11, 69, rfl⟩
theorem wc_X10_fault : Cond.code yX10_fault cX10_fault 2 (some .int) ∈ nd_tbl := nd_ti (i := 782) (by decide +kernel) rfl
theorem ok_X10_fault : nd_okN M_X10_fault 1 := ⟨wc_X10_fault, wn_X10, by decide +kernel, by decide +kernel, by decide +kernel⟩
theorem wi_X10_fault : Cond.instanceMethod yX10_fault ∈ nd_tbl := nd_ti (i := 780) (by decide +kernel) rfl
theorem wl_X10_fault : Cond.selects RX10 yX10_fault yX10_fault ∈ nd_tbl := nd_ti (i := 781) (by decide +kernel) rfl
theorem cl_L_51 : nd_cv RL 51 M_X10_fault 1 9 := ⟨ok_X10_fault, wi_X10_fault, wl_X10_fault, nd_ti (i := 779) (by decide +kernel) rfl, TX10, 11, rfl⟩
theorem wc_X11_fault : Cond.code yX11_fault cX11_fault 2 (some .int) ∈ nd_tbl := nd_ti (i := 1519) (by decide +kernel) rfl
theorem ok_X11_fault : nd_okN M_X11_fault 1 := ⟨wc_X11_fault, wn_X11, by decide +kernel, by decide +kernel, by decide +kernel⟩
theorem wi_X11_fault : Cond.instanceMethod yX11_fault ∈ nd_tbl := nd_ti (i := 1517) (by decide +kernel) rfl
theorem wl_X11_fault : Cond.selects RX11 yX11_fault yX11_fault ∈ nd_tbl := nd_ti (i := 1518) (by decide +kernel) rfl
theorem cl_L_54 : nd_cv RL 54 M_X11_fault 1 10 := ⟨ok_X11_fault, wi_X11_fault, wl_X11_fault, nd_ti (i := 1516) (by decide +kernel) rfl, TX11, 69, rfl⟩
theorem wc_X10_of : Cond.code yX10_of cX10_of 3 (some .int) ∈ nd_tbl := nd_ti (i := 786) (by decide +kernel) rfl
theorem ok_X10_of : nd_okN M_X10_of 2 := ⟨wc_X10_of, wn_X10, by decide +kernel, by decide +kernel, by decide +kernel⟩
theorem wi_X10_of : Cond.instanceMethod yX10_of ∈ nd_tbl := nd_ti (i := 784) (by decide +kernel) rfl
theorem wl_X10_of : Cond.selects RX10 yX10_of yX10_of ∈ nd_tbl := nd_ti (i := 785) (by decide +kernel) rfl
theorem cl_L_55 : nd_cv RL 55 M_X10_of 2 9 := ⟨ok_X10_of, wi_X10_of, wl_X10_of, nd_ti (i := 783) (by decide +kernel) rfl, TX10, 11, rfl⟩
theorem wc_X11_of : Cond.code yX11_of cX11_of 3 (some .int) ∈ nd_tbl := nd_ti (i := 1629) (by decide +kernel) rfl
theorem ok_X11_of : nd_okN M_X11_of 2 := ⟨wc_X11_of, wn_X11, by decide +kernel, by decide +kernel, by decide +kernel⟩
theorem wi_X11_of : Cond.instanceMethod yX11_of ∈ nd_tbl := nd_ti (i := 1627) (by decide +kernel) rfl
theorem wl_X11_of : Cond.selects RX11 yX11_of yX11_of ∈ nd_tbl := nd_ti (i := 1628) (by decide +kernel) rfl
theorem cl_L_59 : nd_cv RL 59 M_X11_of 2 10 := ⟨ok_X11_of, wi_X11_of, wl_X11_of, nd_ti (i := 1626) (by decide +kernel) rfl, TX11, 69, rfl⟩
theorem wc_X10_book : Cond.code yX10_book cX10_book 3 (some .int) ∈ nd_tbl := nd_ti (i := 795) (by decide +kernel) rfl
theorem ok_X10_book : nd_okN M_X10_book 2 := ⟨wc_X10_book, wn_X10, by decide +kernel, by decide +kernel, by decide +kernel⟩
theorem wi_X10_book : Cond.instanceMethod yX10_book ∈ nd_tbl := nd_ti (i := 793) (by decide +kernel) rfl
theorem wl_X10_book : Cond.selects RX10 yX10_book yX10_book ∈ nd_tbl := nd_ti (i := 794) (by decide +kernel) rfl
theorem cl_L_60 : nd_cv RL 60 M_X10_book 2 9 := ⟨ok_X10_book, wi_X10_book, wl_X10_book, nd_ti (i := 792) (by decide +kernel) rfl, TX10, 11, rfl⟩
theorem wc_X11_book : Cond.code yX11_book cX11_book 3 (some .int) ∈ nd_tbl := nd_ti (i := 1633) (by decide +kernel) rfl
theorem ok_X11_book : nd_okN M_X11_book 2 := ⟨wc_X11_book, wn_X11, by decide +kernel, by decide +kernel, by decide +kernel⟩
theorem wi_X11_book : Cond.instanceMethod yX11_book ∈ nd_tbl := nd_ti (i := 1631) (by decide +kernel) rfl
theorem wl_X11_book : Cond.selects RX11 yX11_book yX11_book ∈ nd_tbl := nd_ti (i := 1632) (by decide +kernel) rfl
theorem cl_L_63 : nd_cv RL 63 M_X11_book 2 10 := ⟨ok_X11_book, wi_X11_book, wl_X11_book, nd_ti (i := 1630) (by decide +kernel) rfl, TX11, 69, rfl⟩
theorem wc_X10_goes : Cond.code yX10_goes cX10_goes 4 (some .int) ∈ nd_tbl := nd_ti (i := 799) (by decide +kernel) rfl
theorem ok_X10_goes : nd_okN M_X10_goes 2 := ⟨wc_X10_goes, wn_X10, by decide +kernel, by decide +kernel, by decide +kernel⟩
theorem wi_X10_goes : Cond.instanceMethod yX10_goes ∈ nd_tbl := nd_ti (i := 797) (by decide +kernel) rfl
theorem wl_X10_goes : Cond.selects RX10 yX10_goes yX10_goes ∈ nd_tbl := nd_ti (i := 798) (by decide +kernel) rfl
theorem cl_L_64 : nd_cv RL 64 M_X10_goes 2 9 := ⟨ok_X10_goes, wi_X10_goes, wl_X10_goes, nd_ti (i := 796) (by decide +kernel) rfl, TX10, 11, rfl⟩
theorem wc_X11_goes : Cond.code yX11_goes cX11_goes 5 (some .int) ∈ nd_tbl := nd_ti (i := 1637) (by decide +kernel) rfl
theorem ok_X11_goes : nd_okN M_X11_goes 2 := ⟨wc_X11_goes, wn_X11, by decide +kernel, by decide +kernel, by decide +kernel⟩
theorem wi_X11_goes : Cond.instanceMethod yX11_goes ∈ nd_tbl := nd_ti (i := 1635) (by decide +kernel) rfl
theorem wl_X11_goes : Cond.selects RX11 yX11_goes yX11_goes ∈ nd_tbl := nd_ti (i := 1636) (by decide +kernel) rfl
theorem cl_L_67 : nd_cv RL 67 M_X11_goes 2 10 := ⟨ok_X11_goes, wi_X11_goes, wl_X11_goes, nd_ti (i := 1634) (by decide +kernel) rfl, TX11, 69, rfl⟩
theorem wc_X10_jug : Cond.code yX10_jug cX10_jug 3 (some .int) ∈ nd_tbl := nd_ti (i := 808) (by decide +kernel) rfl
theorem ok_X10_jug : nd_okN M_X10_jug 1 := ⟨wc_X10_jug, wn_X10, by decide +kernel, by decide +kernel, by decide +kernel⟩
theorem wi_X10_jug : Cond.instanceMethod yX10_jug ∈ nd_tbl := nd_ti (i := 806) (by decide +kernel) rfl
theorem wl_X10_jug : Cond.selects RX10 yX10_jug yX10_jug ∈ nd_tbl := nd_ti (i := 807) (by decide +kernel) rfl
theorem cl_L_68 : nd_cv RL 68 M_X10_jug 1 9 := ⟨ok_X10_jug, wi_X10_jug, wl_X10_jug, nd_ti (i := 805) (by decide +kernel) rfl, TX10, 11, rfl⟩
theorem wc_X11_jug : Cond.code yX11_jug cX11_jug 3 (some .int) ∈ nd_tbl := nd_ti (i := 1649) (by decide +kernel) rfl
theorem ok_X11_jug : nd_okN M_X11_jug 1 := ⟨wc_X11_jug, wn_X11, by decide +kernel, by decide +kernel, by decide +kernel⟩
theorem wi_X11_jug : Cond.instanceMethod yX11_jug ∈ nd_tbl := nd_ti (i := 1647) (by decide +kernel) rfl
theorem wl_X11_jug : Cond.selects RX11 yX11_jug yX11_jug ∈ nd_tbl := nd_ti (i := 1648) (by decide +kernel) rfl
theorem cl_L_71 : nd_cv RL 71 M_X11_jug 1 10 := ⟨ok_X11_jug, wi_X11_jug, wl_X11_jug, nd_ti (i := 1646) (by decide +kernel) rfl, TX11, 69, rfl⟩
theorem wc_X10_meets : Cond.code yX10_meets cX10_meets 9 (some .int) ∈ nd_tbl := nd_ti (i := 812) (by decide +kernel) rfl
theorem ok_X10_meets : nd_okN M_X10_meets 4 := ⟨wc_X10_meets, wn_X10, by decide +kernel, by decide +kernel, by decide +kernel⟩
theorem wi_X10_meets : Cond.instanceMethod yX10_meets ∈ nd_tbl := nd_ti (i := 810) (by decide +kernel) rfl
theorem wl_X10_meets : Cond.selects RX10 yX10_meets yX10_meets ∈ nd_tbl := nd_ti (i := 811) (by decide +kernel) rfl
theorem cl_L_72 : nd_cv RL 72 M_X10_meets 4 9 := ⟨ok_X10_meets, wi_X10_meets, wl_X10_meets, nd_ti (i := 809) (by decide +kernel) rfl, TX10, 11, rfl⟩
theorem wc_X11_meets : Cond.code yX11_meets cX11_meets 10 (some .int) ∈ nd_tbl := nd_ti (i := 1653) (by decide +kernel) rfl
theorem ok_X11_meets : nd_okN M_X11_meets 4 := ⟨wc_X11_meets, wn_X11, by decide +kernel, by decide +kernel, by decide +kernel⟩
theorem wi_X11_meets : Cond.instanceMethod yX11_meets ∈ nd_tbl := nd_ti (i := 1651) (by decide +kernel) rfl
theorem wl_X11_meets : Cond.selects RX11 yX11_meets yX11_meets ∈ nd_tbl := nd_ti (i := 1652) (by decide +kernel) rfl
theorem cl_L_76 : nd_cv RL 76 M_X11_meets 4 10 := ⟨ok_X11_meets, wi_X11_meets, wl_X11_meets, nd_ti (i := 1650) (by decide +kernel) rfl, TX11, 69, rfl⟩
theorem wc_X10_child : Cond.code yX10_child cX10_child 2 (some .int) ∈ nd_tbl := nd_ti (i := 829) (by decide +kernel) rfl
theorem ok_X10_child : nd_okN M_X10_child 1 := ⟨wc_X10_child, wn_X10, by decide +kernel, by decide +kernel, by decide +kernel⟩
theorem wi_X10_child : Cond.instanceMethod yX10_child ∈ nd_tbl := nd_ti (i := 827) (by decide +kernel) rfl
theorem wl_X10_child : Cond.selects RX10 yX10_child yX10_child ∈ nd_tbl := nd_ti (i := 828) (by decide +kernel) rfl
theorem cl_L_77 : nd_cv RL 77 M_X10_child 1 9 := ⟨ok_X10_child, wi_X10_child, wl_X10_child, nd_ti (i := 826) (by decide +kernel) rfl, TX10, 11, rfl⟩
theorem wc_X11_child : Cond.code yX11_child cX11_child 2 (some .int) ∈ nd_tbl := nd_ti (i := 1658) (by decide +kernel) rfl
theorem ok_X11_child : nd_okN M_X11_child 1 := ⟨wc_X11_child, wn_X11, by decide +kernel, by decide +kernel, by decide +kernel⟩
theorem wi_X11_child : Cond.instanceMethod yX11_child ∈ nd_tbl := nd_ti (i := 1656) (by decide +kernel) rfl
theorem wl_X11_child : Cond.selects RX11 yX11_child yX11_child ∈ nd_tbl := nd_ti (i := 1657) (by decide +kernel) rfl
theorem cl_L_80 : nd_cv RL 80 M_X11_child 1 10 := ⟨ok_X11_child, wi_X11_child, wl_X11_child, nd_ti (i := 1655) (by decide +kernel) rfl, TX11, 69, rfl⟩
theorem wc_X10_planned : Cond.code yX10_planned cX10_planned 2 (some .int) ∈ nd_tbl := nd_ti (i := 839) (by decide +kernel) rfl
theorem ok_X10_planned : nd_okN M_X10_planned 1 := ⟨wc_X10_planned, wn_X10, by decide +kernel, by decide +kernel, by decide +kernel⟩
theorem wi_X10_planned : Cond.instanceMethod yX10_planned ∈ nd_tbl := nd_ti (i := 837) (by decide +kernel) rfl
theorem wl_X10_planned : Cond.selects RX10 yX10_planned yX10_planned ∈ nd_tbl := nd_ti (i := 838) (by decide +kernel) rfl
theorem cl_L_81 : nd_cv RL 81 M_X10_planned 1 9 := ⟨ok_X10_planned, wi_X10_planned, wl_X10_planned, nd_ti (i := 836) (by decide +kernel) rfl, TX10, 11, rfl⟩
theorem wc_X11_planned : Cond.code yX11_planned cX11_planned 5 (some .int) ∈ nd_tbl := nd_ti (i := 1662) (by decide +kernel) rfl
theorem ok_X11_planned : nd_okN M_X11_planned 1 := ⟨wc_X11_planned, wn_X11, by decide +kernel, by decide +kernel, by decide +kernel⟩
theorem wi_X11_planned : Cond.instanceMethod yX11_planned ∈ nd_tbl := nd_ti (i := 1660) (by decide +kernel) rfl
theorem wl_X11_planned : Cond.selects RX11 yX11_planned yX11_planned ∈ nd_tbl := nd_ti (i := 1661) (by decide +kernel) rfl
theorem cl_L_84 : nd_cv RL 84 M_X11_planned 1 10 := ⟨ok_X11_planned, wi_X11_planned, wl_X11_planned, nd_ti (i := 1659) (by decide +kernel) rfl, TX11, 69, rfl⟩
theorem wc_X10_siding : Cond.code yX10_siding cX10_siding 4 (some .int) ∈ nd_tbl := nd_ti (i := 853) (by decide +kernel) rfl
theorem ok_X10_siding : nd_okN M_X10_siding 2 := ⟨wc_X10_siding, wn_X10, by decide +kernel, by decide +kernel, by decide +kernel⟩
theorem wi_X10_siding : Cond.instanceMethod yX10_siding ∈ nd_tbl := nd_ti (i := 851) (by decide +kernel) rfl
theorem wl_X10_siding : Cond.selects RX10 yX10_siding yX10_siding ∈ nd_tbl := nd_ti (i := 852) (by decide +kernel) rfl
theorem cl_L_85 : nd_cv RL 85 M_X10_siding 2 9 := ⟨ok_X10_siding, wi_X10_siding, wl_X10_siding, nd_ti (i := 850) (by decide +kernel) rfl, TX10, 11, rfl⟩
theorem wc_X11_siding : Cond.code yX11_siding cX11_siding 6 (some .int) ∈ nd_tbl := nd_ti (i := 1675) (by decide +kernel) rfl
theorem ok_X11_siding : nd_okN M_X11_siding 2 := ⟨wc_X11_siding, wn_X11, by decide +kernel, by decide +kernel, by decide +kernel⟩
theorem wi_X11_siding : Cond.instanceMethod yX11_siding ∈ nd_tbl := nd_ti (i := 1673) (by decide +kernel) rfl
theorem wl_X11_siding : Cond.selects RX11 yX11_siding yX11_siding ∈ nd_tbl := nd_ti (i := 1674) (by decide +kernel) rfl
theorem cl_L_88 : nd_cv RL 88 M_X11_siding 2 10 := ⟨ok_X11_siding, wi_X11_siding, wl_X11_siding, nd_ti (i := 1672) (by decide +kernel) rfl, TX11, 69, rfl⟩
theorem wc_X10_bought : Cond.code yX10_bought cX10_bought 4 (some .int) ∈ nd_tbl := nd_ti (i := 871) (by decide +kernel) rfl
theorem ok_X10_bought : nd_okN M_X10_bought 2 := ⟨wc_X10_bought, wn_X10, by decide +kernel, by decide +kernel, by decide +kernel⟩
theorem wi_X10_bought : Cond.instanceMethod yX10_bought ∈ nd_tbl := nd_ti (i := 869) (by decide +kernel) rfl
theorem wl_X10_bought : Cond.selects RX10 yX10_bought yX10_bought ∈ nd_tbl := nd_ti (i := 870) (by decide +kernel) rfl
theorem cl_L_89 : nd_cv RL 89 M_X10_bought 2 9 := ⟨ok_X10_bought, wi_X10_bought, wl_X10_bought, nd_ti (i := 868) (by decide +kernel) rfl, TX10, 11, rfl⟩
theorem wc_X11_bought : Cond.code yX11_bought cX11_bought 4 (some .int) ∈ nd_tbl := nd_ti (i := 1691) (by decide +kernel) rfl
theorem ok_X11_bought : nd_okN M_X11_bought 2 := ⟨wc_X11_bought, wn_X11, by decide +kernel, by decide +kernel, by decide +kernel⟩
theorem wi_X11_bought : Cond.instanceMethod yX11_bought ∈ nd_tbl := nd_ti (i := 1689) (by decide +kernel) rfl
theorem wl_X11_bought : Cond.selects RX11 yX11_bought yX11_bought ∈ nd_tbl := nd_ti (i := 1690) (by decide +kernel) rfl
theorem cl_L_92 : nd_cv RL 92 M_X11_bought 2 10 := ⟨ok_X11_bought, wi_X11_bought, wl_X11_bought, nd_ti (i := 1688) (by decide +kernel) rfl, TX11, 69, rfl⟩
theorem wc_X10_rows : Cond.code yX10_rows cX10_rows 3 (some .int) ∈ nd_tbl := nd_ti (i := 877) (by decide +kernel) rfl
theorem ok_X10_rows : nd_okN M_X10_rows 2 := ⟨wc_X10_rows, wn_X10, by decide +kernel, by decide +kernel, by decide +kernel⟩
theorem wi_X10_rows : Cond.instanceMethod yX10_rows ∈ nd_tbl := nd_ti (i := 875) (by decide +kernel) rfl
theorem wl_X10_rows : Cond.selects RX10 yX10_rows yX10_rows ∈ nd_tbl := nd_ti (i := 876) (by decide +kernel) rfl
theorem cl_L_93 : nd_cv RL 93 M_X10_rows 2 9 := ⟨ok_X10_rows, wi_X10_rows, wl_X10_rows, nd_ti (i := 874) (by decide +kernel) rfl, TX10, 11, rfl⟩
theorem wc_X11_rows : Cond.code yX11_rows cX11_rows 8 (some .int) ∈ nd_tbl := nd_ti (i := 1695) (by decide +kernel) rfl
theorem ok_X11_rows : nd_okN M_X11_rows 2 := ⟨wc_X11_rows, wn_X11, by decide +kernel, by decide +kernel, by decide +kernel⟩
theorem wi_X11_rows : Cond.instanceMethod yX11_rows ∈ nd_tbl := nd_ti (i := 1693) (by decide +kernel) rfl
theorem wl_X11_rows : Cond.selects RX11 yX11_rows yX11_rows ∈ nd_tbl := nd_ti (i := 1694) (by decide +kernel) rfl
theorem cl_L_96 : nd_cv RL 96 M_X11_rows 2 10 := ⟨ok_X11_rows, wi_X11_rows, wl_X11_rows, nd_ti (i := 1692) (by decide +kernel) rfl, TX11, 69, rfl⟩
theorem wc_X10_dowry : Cond.code yX10_dowry cX10_dowry 2 (some .int) ∈ nd_tbl := nd_ti (i := 911) (by decide +kernel) rfl
theorem ok_X10_dowry : nd_okN M_X10_dowry 1 := ⟨wc_X10_dowry, wn_X10, by decide +kernel, by decide +kernel, by decide +kernel⟩
theorem wi_X10_dowry : Cond.instanceMethod yX10_dowry ∈ nd_tbl := nd_ti (i := 909) (by decide +kernel) rfl
theorem wl_X10_dowry : Cond.selects RX10 yX10_dowry yX10_dowry ∈ nd_tbl := nd_ti (i := 910) (by decide +kernel) rfl
theorem cl_L_97 : nd_cv RL 97 M_X10_dowry 1 9 := ⟨ok_X10_dowry, wi_X10_dowry, wl_X10_dowry, nd_ti (i := 908) (by decide +kernel) rfl, TX10, 11, rfl⟩
theorem wc_X11_dowry : Cond.code yX11_dowry cX11_dowry 2 (some .int) ∈ nd_tbl := nd_ti (i := 1703) (by decide +kernel) rfl
theorem ok_X11_dowry : nd_okN M_X11_dowry 1 := ⟨wc_X11_dowry, wn_X11, by decide +kernel, by decide +kernel, by decide +kernel⟩
theorem wi_X11_dowry : Cond.instanceMethod yX11_dowry ∈ nd_tbl := nd_ti (i := 1701) (by decide +kernel) rfl
theorem wl_X11_dowry : Cond.selects RX11 yX11_dowry yX11_dowry ∈ nd_tbl := nd_ti (i := 1702) (by decide +kernel) rfl
theorem cl_L_100 : nd_cv RL 100 M_X11_dowry 1 10 := ⟨ok_X11_dowry, wi_X11_dowry, wl_X11_dowry, nd_ti (i := 1700) (by decide +kernel) rfl, TX11, 69, rfl⟩
theorem wc_X10_pushed : Cond.code yX10_pushed cX10_pushed 3 (some .int) ∈ nd_tbl := nd_ti (i := 915) (by decide +kernel) rfl
theorem ok_X10_pushed : nd_okN M_X10_pushed 1 := ⟨wc_X10_pushed, wn_X10, by decide +kernel, by decide +kernel, by decide +kernel⟩
theorem wi_X10_pushed : Cond.instanceMethod yX10_pushed ∈ nd_tbl := nd_ti (i := 913) (by decide +kernel) rfl
theorem wl_X10_pushed : Cond.selects RX10 yX10_pushed yX10_pushed ∈ nd_tbl := nd_ti (i := 914) (by decide +kernel) rfl
theorem cl_L_101 : nd_cv RL 101 M_X10_pushed 1 9 := ⟨ok_X10_pushed, wi_X10_pushed, wl_X10_pushed, nd_ti (i := 912) (by decide +kernel) rfl, TX10, 11, rfl⟩
theorem wc_X11_pushed : Cond.code yX11_pushed cX11_pushed 3 (some .int) ∈ nd_tbl := nd_ti (i := 1707) (by decide +kernel) rfl
theorem ok_X11_pushed : nd_okN M_X11_pushed 1 := ⟨wc_X11_pushed, wn_X11, by decide +kernel, by decide +kernel, by decide +kernel⟩
theorem wi_X11_pushed : Cond.instanceMethod yX11_pushed ∈ nd_tbl := nd_ti (i := 1705) (by decide +kernel) rfl
theorem wl_X11_pushed : Cond.selects RX11 yX11_pushed yX11_pushed ∈ nd_tbl := nd_ti (i := 1706) (by decide +kernel) rfl
theorem cl_L_104 : nd_cv RL 104 M_X11_pushed 1 10 := ⟨ok_X11_pushed, wi_X11_pushed, wl_X11_pushed, nd_ti (i := 1704) (by decide +kernel) rfl, TX11, 69, rfl⟩
theorem wc_X10_feuds : Cond.code yX10_feuds cX10_feuds 2 (some .int) ∈ nd_tbl := nd_ti (i := 932) (by decide +kernel) rfl
theorem ok_X10_feuds : nd_okN M_X10_feuds 1 := ⟨wc_X10_feuds, wn_X10, by decide +kernel, by decide +kernel, by decide +kernel⟩
theorem wi_X10_feuds : Cond.instanceMethod yX10_feuds ∈ nd_tbl := nd_ti (i := 930) (by decide +kernel) rfl
theorem wl_X10_feuds : Cond.selects RX10 yX10_feuds yX10_feuds ∈ nd_tbl := nd_ti (i := 931) (by decide +kernel) rfl
theorem cl_L_105 : nd_cv RL 105 M_X10_feuds 1 9 := ⟨ok_X10_feuds, wi_X10_feuds, wl_X10_feuds, nd_ti (i := 929) (by decide +kernel) rfl, TX10, 11, rfl⟩
theorem wc_X11_feuds : Cond.code yX11_feuds cX11_feuds 4 (some .int) ∈ nd_tbl := nd_ti (i := 1715) (by decide +kernel) rfl
theorem ok_X11_feuds : nd_okN M_X11_feuds 1 := ⟨wc_X11_feuds, wn_X11, by decide +kernel, by decide +kernel, by decide +kernel⟩
theorem wi_X11_feuds : Cond.instanceMethod yX11_feuds ∈ nd_tbl := nd_ti (i := 1713) (by decide +kernel) rfl
theorem wl_X11_feuds : Cond.selects RX11 yX11_feuds yX11_feuds ∈ nd_tbl := nd_ti (i := 1714) (by decide +kernel) rfl
theorem cl_L_108 : nd_cv RL 108 M_X11_feuds 1 10 := ⟨ok_X11_feuds, wi_X11_feuds, wl_X11_feuds, nd_ti (i := 1712) (by decide +kernel) rfl, TX11, 69, rfl⟩
theorem wc_X10_person : Cond.code yX10_person cX10_person 7 (some .int) ∈ nd_tbl := nd_ti (i := 953) (by decide +kernel) rfl
theorem ok_X10_person : nd_okN M_X10_person 2 := ⟨wc_X10_person, wn_X10, by decide +kernel, by decide +kernel, by decide +kernel⟩
theorem wi_X10_person : Cond.instanceMethod yX10_person ∈ nd_tbl := nd_ti (i := 951) (by decide +kernel) rfl
theorem wl_X10_person : Cond.selects RX10 yX10_person yX10_person ∈ nd_tbl := nd_ti (i := 952) (by decide +kernel) rfl
theorem cl_L_109 : nd_cv RL 109 M_X10_person 2 9 := ⟨ok_X10_person, wi_X10_person, wl_X10_person, nd_ti (i := 950) (by decide +kernel) rfl, TX10, 11, rfl⟩
theorem wc_X11_person : Cond.code yX11_person cX11_person 4 (some .int) ∈ nd_tbl := nd_ti (i := 1731) (by decide +kernel) rfl
theorem ok_X11_person : nd_okN M_X11_person 2 := ⟨wc_X11_person, wn_X11, by decide +kernel, by decide +kernel, by decide +kernel⟩
theorem wi_X11_person : Cond.instanceMethod yX11_person ∈ nd_tbl := nd_ti (i := 1729) (by decide +kernel) rfl
theorem wl_X11_person : Cond.selects RX11 yX11_person yX11_person ∈ nd_tbl := nd_ti (i := 1730) (by decide +kernel) rfl
theorem cl_L_112 : nd_cv RL 112 M_X11_person 2 10 := ⟨ok_X11_person, wi_X11_person, wl_X11_person, nd_ti (i := 1728) (by decide +kernel) rfl, TX11, 69, rfl⟩
theorem wc_X10_akin : Cond.code yX10_akin cX10_akin 6 (some .int) ∈ nd_tbl := nd_ti (i := 957) (by decide +kernel) rfl
theorem ok_X10_akin : nd_okN M_X10_akin 3 := ⟨wc_X10_akin, wn_X10, by decide +kernel, by decide +kernel, by decide +kernel⟩
theorem wi_X10_akin : Cond.instanceMethod yX10_akin ∈ nd_tbl := nd_ti (i := 955) (by decide +kernel) rfl
theorem wl_X10_akin : Cond.selects RX10 yX10_akin yX10_akin ∈ nd_tbl := nd_ti (i := 956) (by decide +kernel) rfl
theorem cl_L_113 : nd_cv RL 113 M_X10_akin 3 9 := ⟨ok_X10_akin, wi_X10_akin, wl_X10_akin, nd_ti (i := 954) (by decide +kernel) rfl, TX10, 11, rfl⟩
theorem wc_X11_akin : Cond.code yX11_akin cX11_akin 4 (some .int) ∈ nd_tbl := nd_ti (i := 1735) (by decide +kernel) rfl
theorem ok_X11_akin : nd_okN M_X11_akin 3 := ⟨wc_X11_akin, wn_X11, by decide +kernel, by decide +kernel, by decide +kernel⟩
theorem wi_X11_akin : Cond.instanceMethod yX11_akin ∈ nd_tbl := nd_ti (i := 1733) (by decide +kernel) rfl
theorem wl_X11_akin : Cond.selects RX11 yX11_akin yX11_akin ∈ nd_tbl := nd_ti (i := 1734) (by decide +kernel) rfl
theorem cl_L_116 : nd_cv RL 116 M_X11_akin 3 10 := ⟨ok_X11_akin, wi_X11_akin, wl_X11_akin, nd_ti (i := 1732) (by decide +kernel) rfl, TX11, 69, rfl⟩
theorem wc_X10_home : Cond.code yX10_home cX10_home 10 (some .int) ∈ nd_tbl := nd_ti (i := 980) (by decide +kernel) rfl
theorem ok_X10_home : nd_okN M_X10_home 4 := ⟨wc_X10_home, wn_X10, by decide +kernel, by decide +kernel, by decide +kernel⟩
theorem wi_X10_home : Cond.instanceMethod yX10_home ∈ nd_tbl := nd_ti (i := 978) (by decide +kernel) rfl
theorem wl_X10_home : Cond.selects RX10 yX10_home yX10_home ∈ nd_tbl := nd_ti (i := 979) (by decide +kernel) rfl
theorem cl_L_117 : nd_cv RL 117 M_X10_home 4 9 := ⟨ok_X10_home, wi_X10_home, wl_X10_home, nd_ti (i := 977) (by decide +kernel) rfl, TX10, 11, rfl⟩
theorem wc_X11_home : Cond.code yX11_home cX11_home 8 (some .int) ∈ nd_tbl := nd_ti (i := 1753) (by decide +kernel) rfl
theorem ok_X11_home : nd_okN M_X11_home 4 := ⟨wc_X11_home, wn_X11, by decide +kernel, by decide +kernel, by decide +kernel⟩
theorem wi_X11_home : Cond.instanceMethod yX11_home ∈ nd_tbl := nd_ti (i := 1751) (by decide +kernel) rfl
theorem wl_X11_home : Cond.selects RX11 yX11_home yX11_home ∈ nd_tbl := nd_ti (i := 1752) (by decide +kernel) rfl
theorem cl_L_120 : nd_cv RL 120 M_X11_home 4 10 := ⟨ok_X11_home, wi_X11_home, wl_X11_home, nd_ti (i := 1750) (by decide +kernel) rfl, TX11, 69, rfl⟩
theorem wc_X10_streets : Cond.code yX10_streets cX10_streets 4 (some .int) ∈ nd_tbl := nd_ti (i := 987) (by decide +kernel) rfl
theorem ok_X10_streets : nd_okN M_X10_streets 3 := ⟨wc_X10_streets, wn_X10, by decide +kernel, by decide +kernel, by decide +kernel⟩
theorem wi_X10_streets : Cond.instanceMethod yX10_streets ∈ nd_tbl := nd_ti (i := 985) (by decide +kernel) rfl
theorem wl_X10_streets : Cond.selects RX10 yX10_streets yX10_streets ∈ nd_tbl := nd_ti (i := 986) (by decide +kernel) rfl
theorem cl_L_121 : nd_cv RL 121 M_X10_streets 3 9 := ⟨ok_X10_streets, wi_X10_streets, wl_X10_streets, nd_ti (i := 984) (by decide +kernel) rfl, TX10, 11, rfl⟩
theorem wc_X11_streets : Cond.code yX11_streets cX11_streets 6 (some .int) ∈ nd_tbl := nd_ti (i := 1761) (by decide +kernel) rfl
theorem ok_X11_streets : nd_okN M_X11_streets 3 := ⟨wc_X11_streets, wn_X11, by decide +kernel, by decide +kernel, by decide +kernel⟩
theorem wi_X11_streets : Cond.instanceMethod yX11_streets ∈ nd_tbl := nd_ti (i := 1759) (by decide +kernel) rfl
theorem wl_X11_streets : Cond.selects RX11 yX11_streets yX11_streets ∈ nd_tbl := nd_ti (i := 1760) (by decide +kernel) rfl
theorem cl_L_124 : nd_cv RL 124 M_X11_streets 3 10 := ⟨ok_X11_streets, wi_X11_streets, wl_X11_streets, nd_ti (i := 1758) (by decide +kernel) rfl, TX11, 69, rfl⟩
theorem wc_X10_moved : Cond.code yX10_moved cX10_moved 4 (some .boolean) ∈ nd_tbl := nd_ti (i := 997) (by decide +kernel) rfl
theorem ok_X10_moved : nd_okN M_X10_moved 2 := ⟨wc_X10_moved, wn_X10, by decide +kernel, by decide +kernel, by decide +kernel⟩
theorem wi_X10_moved : Cond.instanceMethod yX10_moved ∈ nd_tbl := nd_ti (i := 995) (by decide +kernel) rfl
theorem wl_X10_moved : Cond.selects RX10 yX10_moved yX10_moved ∈ nd_tbl := nd_ti (i := 996) (by decide +kernel) rfl
theorem cl_L_125 : nd_cv RL 125 M_X10_moved 2 9 := ⟨ok_X10_moved, wi_X10_moved, wl_X10_moved, nd_ti (i := 994) (by decide +kernel) rfl, TX10, 11, rfl⟩
theorem wc_X11_moved : Cond.code yX11_moved cX11_moved 3 (some .boolean) ∈ nd_tbl := nd_ti (i := 1765) (by decide +kernel) rfl
theorem ok_X11_moved : nd_okN M_X11_moved 2 := ⟨wc_X11_moved, wn_X11, by decide +kernel, by decide +kernel, by decide +kernel⟩
theorem wi_X11_moved : Cond.instanceMethod yX11_moved ∈ nd_tbl := nd_ti (i := 1763) (by decide +kernel) rfl
theorem wl_X11_moved : Cond.selects RX11 yX11_moved yX11_moved ∈ nd_tbl := nd_ti (i := 1764) (by decide +kernel) rfl
theorem cl_L_128 : nd_cv RL 128 M_X11_moved 2 10 := ⟨ok_X11_moved, wi_X11_moved, wl_X11_moved, nd_ti (i := 1762) (by decide +kernel) rfl, TX11, 69, rfl⟩
theorem wc_X10_chain : Cond.code yX10_chain cX10_chain 1 (some .int) ∈ nd_tbl := nd_ti (i := 1001) (by decide +kernel) rfl
theorem ok_X10_chain : nd_okN M_X10_chain 0 := ⟨wc_X10_chain, wn_X10, by decide +kernel, by decide +kernel, by decide +kernel⟩
theorem wi_X10_chain : Cond.instanceMethod yX10_chain ∈ nd_tbl := nd_ti (i := 999) (by decide +kernel) rfl
theorem wl_X10_chain : Cond.selects RX10 yX10_chain yX10_chain ∈ nd_tbl := nd_ti (i := 1000) (by decide +kernel) rfl
theorem cl_L_129 : nd_cv RL 129 M_X10_chain 0 9 := ⟨ok_X10_chain, wi_X10_chain, wl_X10_chain, nd_ti (i := 998) (by decide +kernel) rfl, TX10, 11, rfl⟩
theorem wc_X11_chain : Cond.code yX11_chain cX11_chain 3 (some .int) ∈ nd_tbl := nd_ti (i := 1769) (by decide +kernel) rfl
theorem ok_X11_chain : nd_okN M_X11_chain 0 := ⟨wc_X11_chain, wn_X11, by decide +kernel, by decide +kernel, by decide +kernel⟩
theorem wi_X11_chain : Cond.instanceMethod yX11_chain ∈ nd_tbl := nd_ti (i := 1767) (by decide +kernel) rfl
theorem wl_X11_chain : Cond.selects RX11 yX11_chain yX11_chain ∈ nd_tbl := nd_ti (i := 1768) (by decide +kernel) rfl
theorem cl_L_133 : nd_cv RL 133 M_X11_chain 0 10 := ⟨ok_X11_chain, wi_X11_chain, wl_X11_chain, nd_ti (i := 1766) (by decide +kernel) rfl, TX11, 69, rfl⟩
theorem wc_X10_order : Cond.code yX10_order cX10_order 5 (some .int) ∈ nd_tbl := nd_ti (i := 1013) (by decide +kernel) rfl
theorem ok_X10_order : nd_okN M_X10_order 3 := ⟨wc_X10_order, wn_X10, by decide +kernel, by decide +kernel, by decide +kernel⟩
theorem wi_X10_order : Cond.instanceMethod yX10_order ∈ nd_tbl := nd_ti (i := 1011) (by decide +kernel) rfl
theorem wl_X10_order : Cond.selects RX10 yX10_order yX10_order ∈ nd_tbl := nd_ti (i := 1012) (by decide +kernel) rfl
theorem cl_L_134 : nd_cv RL 134 M_X10_order 3 9 := ⟨ok_X10_order, wi_X10_order, wl_X10_order, nd_ti (i := 1010) (by decide +kernel) rfl, TX10, 11, rfl⟩
theorem wc_X11_order : Cond.code yX11_order cX11_order 6 (some .int) ∈ nd_tbl := nd_ti (i := 1777) (by decide +kernel) rfl
theorem ok_X11_order : nd_okN M_X11_order 3 := ⟨wc_X11_order, wn_X11, by decide +kernel, by decide +kernel, by decide +kernel⟩
theorem wi_X11_order : Cond.instanceMethod yX11_order ∈ nd_tbl := nd_ti (i := 1775) (by decide +kernel) rfl
theorem wl_X11_order : Cond.selects RX11 yX11_order yX11_order ∈ nd_tbl := nd_ti (i := 1776) (by decide +kernel) rfl
theorem cl_L_137 : nd_cv RL 137 M_X11_order 3 10 := ⟨ok_X11_order, wi_X11_order, wl_X11_order, nd_ti (i := 1774) (by decide +kernel) rfl, TX11, 69, rfl⟩
theorem wc_X10_height : Cond.code yX10_height cX10_height 2 (some .int) ∈ nd_tbl := nd_ti (i := 1024) (by decide +kernel) rfl
theorem ok_X10_height : nd_okN M_X10_height 1 := ⟨wc_X10_height, wn_X10, by decide +kernel, by decide +kernel, by decide +kernel⟩
theorem wi_X10_height : Cond.instanceMethod yX10_height ∈ nd_tbl := nd_ti (i := 1022) (by decide +kernel) rfl
theorem wl_X10_height : Cond.selects RX10 yX10_height yX10_height ∈ nd_tbl := nd_ti (i := 1023) (by decide +kernel) rfl
theorem cl_L_138 : nd_cv RL 138 M_X10_height 1 9 := ⟨ok_X10_height, wi_X10_height, wl_X10_height, nd_ti (i := 1021) (by decide +kernel) rfl, TX10, 11, rfl⟩
theorem wc_X11_height : Cond.code yX11_height cX11_height 2 (some .int) ∈ nd_tbl := nd_ti (i := 1789) (by decide +kernel) rfl
theorem ok_X11_height : nd_okN M_X11_height 1 := ⟨wc_X11_height, wn_X11, by decide +kernel, by decide +kernel, by decide +kernel⟩
theorem wi_X11_height : Cond.instanceMethod yX11_height ∈ nd_tbl := nd_ti (i := 1787) (by decide +kernel) rfl
theorem wl_X11_height : Cond.selects RX11 yX11_height yX11_height ∈ nd_tbl := nd_ti (i := 1788) (by decide +kernel) rfl
theorem cl_L_141 : nd_cv RL 141 M_X11_height 1 10 := ⟨ok_X11_height, wi_X11_height, wl_X11_height, nd_ti (i := 1786) (by decide +kernel) rfl, TX11, 69, rfl⟩
theorem wc_X10_windows : Cond.code yX10_windows cX10_windows 2 (some .int) ∈ nd_tbl := nd_ti (i := 1028) (by decide +kernel) rfl
theorem ok_X10_windows : nd_okN M_X10_windows 1 := ⟨wc_X10_windows, wn_X10, by decide +kernel, by decide +kernel, by decide +kernel⟩
theorem wi_X10_windows : Cond.instanceMethod yX10_windows ∈ nd_tbl := nd_ti (i := 1026) (by decide +kernel) rfl
theorem wl_X10_windows : Cond.selects RX10 yX10_windows yX10_windows ∈ nd_tbl := nd_ti (i := 1027) (by decide +kernel) rfl
theorem cl_L_142 : nd_cv RL 142 M_X10_windows 1 9 := ⟨ok_X10_windows, wi_X10_windows, wl_X10_windows, nd_ti (i := 1025) (by decide +kernel) rfl, TX10, 11, rfl⟩
theorem wc_X11_windows : Cond.code yX11_windows cX11_windows 7 (some .int) ∈ nd_tbl := nd_ti (i := 1793) (by decide +kernel) rfl
theorem ok_X11_windows : nd_okN M_X11_windows 1 := ⟨wc_X11_windows, wn_X11, by decide +kernel, by decide +kernel, by decide +kernel⟩
theorem wi_X11_windows : Cond.instanceMethod yX11_windows ∈ nd_tbl := nd_ti (i := 1791) (by decide +kernel) rfl
theorem wl_X11_windows : Cond.selects RX11 yX11_windows yX11_windows ∈ nd_tbl := nd_ti (i := 1792) (by decide +kernel) rfl
theorem cl_L_145 : nd_cv RL 145 M_X11_windows 1 10 := ⟨ok_X11_windows, wi_X11_windows, wl_X11_windows, nd_ti (i := 1790) (by decide +kernel) rfl, TX11, 69, rfl⟩
theorem wc_X10_game : Cond.code yX10_game cX10_game 6 (some .int) ∈ nd_tbl := nd_ti (i := 1052) (by decide +kernel) rfl
theorem ok_X10_game : nd_okN M_X10_game 3 := ⟨wc_X10_game, wn_X10, by decide +kernel, by decide +kernel, by decide +kernel⟩
theorem wi_X10_game : Cond.instanceMethod yX10_game ∈ nd_tbl := nd_ti (i := 1050) (by decide +kernel) rfl
theorem wl_X10_game : Cond.selects RX10 yX10_game yX10_game ∈ nd_tbl := nd_ti (i := 1051) (by decide +kernel) rfl
theorem cl_L_146 : nd_cv RL 146 M_X10_game 3 9 := ⟨ok_X10_game, wi_X10_game, wl_X10_game, nd_ti (i := 1049) (by decide +kernel) rfl, TX10, 11, rfl⟩
theorem wc_X11_game : Cond.code yX11_game cX11_game 5 (some .int) ∈ nd_tbl := nd_ti (i := 1805) (by decide +kernel) rfl
theorem ok_X11_game : nd_okN M_X11_game 3 := ⟨wc_X11_game, wn_X11, by decide +kernel, by decide +kernel, by decide +kernel⟩
theorem wi_X11_game : Cond.instanceMethod yX11_game ∈ nd_tbl := nd_ti (i := 1803) (by decide +kernel) rfl
theorem wl_X11_game : Cond.selects RX11 yX11_game yX11_game ∈ nd_tbl := nd_ti (i := 1804) (by decide +kernel) rfl
theorem cl_L_149 : nd_cv RL 149 M_X11_game 3 10 := ⟨ok_X11_game, wi_X11_game, wl_X11_game, nd_ti (i := 1802) (by decide +kernel) rfl, TX11, 69, rfl⟩
theorem wc_X10_undo : Cond.code yX10_undo cX10_undo 1 (some .boolean) ∈ nd_tbl := nd_ti (i := 1068) (by decide +kernel) rfl
theorem ok_X10_undo : nd_okN M_X10_undo 0 := ⟨wc_X10_undo, wn_X10, by decide +kernel, by decide +kernel, by decide +kernel⟩
theorem wi_X10_undo : Cond.instanceMethod yX10_undo ∈ nd_tbl := nd_ti (i := 1066) (by decide +kernel) rfl
theorem wl_X10_undo : Cond.selects RX10 yX10_undo yX10_undo ∈ nd_tbl := nd_ti (i := 1067) (by decide +kernel) rfl
theorem cl_L_150 : nd_cv RL 150 M_X10_undo 0 9 := ⟨ok_X10_undo, wi_X10_undo, wl_X10_undo, nd_ti (i := 1065) (by decide +kernel) rfl, TX10, 11, rfl⟩
theorem wc_X11_undo : Cond.code yX11_undo cX11_undo 2 (some .boolean) ∈ nd_tbl := nd_ti (i := 1351) (by decide +kernel) rfl
theorem ok_X11_undo : nd_okN M_X11_undo 0 := ⟨wc_X11_undo, wn_X11, by decide +kernel, by decide +kernel, by decide +kernel⟩
theorem wi_X11_undo : Cond.instanceMethod yX11_undo ∈ nd_tbl := nd_ti (i := 1349) (by decide +kernel) rfl
theorem wl_X11_undo : Cond.selects RX11 yX11_undo yX11_undo ∈ nd_tbl := nd_ti (i := 1350) (by decide +kernel) rfl
theorem cl_L_154 : nd_cv RL 154 M_X11_undo 0 10 := ⟨ok_X11_undo, wi_X11_undo, wl_X11_undo, nd_ti (i := 1348) (by decide +kernel) rfl, TX11, 69, rfl⟩
theorem wc_X10_image : Cond.code yX10_image cX10_image 2 (some .boolean) ∈ nd_tbl := nd_ti (i := 1076) (by decide +kernel) rfl
theorem ok_X10_image : nd_okN M_X10_image 1 := ⟨wc_X10_image, wn_X10, by decide +kernel, by decide +kernel, by decide +kernel⟩
theorem wi_X10_image : Cond.instanceMethod yX10_image ∈ nd_tbl := nd_ti (i := 1074) (by decide +kernel) rfl
theorem wl_X10_image : Cond.selects RX10 yX10_image yX10_image ∈ nd_tbl := nd_ti (i := 1075) (by decide +kernel) rfl
theorem cl_L_155 : nd_cv RL 155 M_X10_image 1 9 := ⟨ok_X10_image, wi_X10_image, wl_X10_image, nd_ti (i := 1073) (by decide +kernel) rfl, TX10, 11, rfl⟩
theorem wc_X11_image : Cond.code yX11_image cX11_image 3 (some .boolean) ∈ nd_tbl := nd_ti (i := 1817) (by decide +kernel) rfl
theorem ok_X11_image : nd_okN M_X11_image 1 := ⟨wc_X11_image, wn_X11, by decide +kernel, by decide +kernel, by decide +kernel⟩
theorem wi_X11_image : Cond.instanceMethod yX11_image ∈ nd_tbl := nd_ti (i := 1815) (by decide +kernel) rfl
theorem wl_X11_image : Cond.selects RX11 yX11_image yX11_image ∈ nd_tbl := nd_ti (i := 1816) (by decide +kernel) rfl
theorem cl_L_159 : nd_cv RL 159 M_X11_image 1 10 := ⟨ok_X11_image, wi_X11_image, wl_X11_image, nd_ti (i := 1814) (by decide +kernel) rfl, TX11, 69, rfl⟩
theorem wc_X10_look : Cond.code yX10_look cX10_look 2 (some .int) ∈ nd_tbl := nd_ti (i := 1126) (by decide +kernel) rfl
theorem ok_X10_look : nd_okN M_X10_look 1 := ⟨wc_X10_look, wn_X10, by decide +kernel, by decide +kernel, by decide +kernel⟩
theorem wi_X10_look : Cond.instanceMethod yX10_look ∈ nd_tbl := nd_ti (i := 1124) (by decide +kernel) rfl
theorem wl_X10_look : Cond.selects RX10 yX10_look yX10_look ∈ nd_tbl := nd_ti (i := 1125) (by decide +kernel) rfl
theorem cl_L_160 : nd_cv RL 160 M_X10_look 1 9 := ⟨ok_X10_look, wi_X10_look, wl_X10_look, nd_ti (i := 1123) (by decide +kernel) rfl, TX10, 11, rfl⟩
theorem wc_X11_look : Cond.code yX11_look cX11_look 4 (some .int) ∈ nd_tbl := nd_ti (i := 1833) (by decide +kernel) rfl
theorem ok_X11_look : nd_okN M_X11_look 1 := ⟨wc_X11_look, wn_X11, by decide +kernel, by decide +kernel, by decide +kernel⟩
theorem wi_X11_look : Cond.instanceMethod yX11_look ∈ nd_tbl := nd_ti (i := 1831) (by decide +kernel) rfl
theorem wl_X11_look : Cond.selects RX11 yX11_look yX11_look ∈ nd_tbl := nd_ti (i := 1832) (by decide +kernel) rfl
theorem cl_L_163 : nd_cv RL 163 M_X11_look 1 10 := ⟨ok_X11_look, wi_X11_look, wl_X11_look, nd_ti (i := 1830) (by decide +kernel) rfl, TX11, 69, rfl⟩
