theorem dL_law_0 : decode cL_law 0 = .ok (.new 7, 3) := by decide +kernel
theorem dL_law_3 : decode cL_law 3 = .ok (.dup, 1) := by decide +kernel
theorem dL_law_4 : decode cL_law 4 = .ok (.invokespecial 9, 3) := by decide +kernel
theorem dL_law_7 : decode cL_law 7 = .ok (.astore_n 1, 1) := by decide +kernel
theorem dL_law_8 : decode cL_law 8 = .ok (.new 10, 3) := by decide +kernel
theorem dL_law_11 : decode cL_law 11 = .ok (.dup, 1) := by decide +kernel
theorem dL_law_12 : decode cL_law 12 = .ok (.invokespecial 12, 3) := by decide +kernel
theorem dL_law_15 : decode cL_law 15 = .ok (.astore_n 2, 1) := by decide +kernel
theorem dL_law_16 : decode cL_law 16 = .ok (.iconst 0, 1) := by decide +kernel
theorem dL_law_17 : decode cL_law 17 = .ok (.istore_n 3, 1) := by decide +kernel
theorem dL_law_18 : decode cL_law 18 = .ok (.iload_n 3, 1) := by decide +kernel
theorem dL_law_19 : decode cL_law 19 = .ok (.aload_n 0, 1) := by decide +kernel
theorem dL_law_20 : decode cL_law 20 = .ok (.arraylength, 1) := by decide +kernel
theorem dL_law_21 : decode cL_law 21 = .ok (.bipush 6, 2) := by decide +kernel
theorem dL_law_23 : decode cL_law 23 = .ok (.isub, 1) := by decide +kernel
theorem dL_law_24 : decode cL_law 24 = .ok (.if_icmp .gt 1295, 3) := by decide +kernel
theorem dL_law_27 : decode cL_law 27 = .ok (.aload_n 0, 1) := by decide +kernel
theorem dL_law_28 : decode cL_law 28 = .ok (.iload_n 3, 1) := by decide +kernel
theorem dL_law_29 : decode cL_law 29 = .ok (.iaload, 1) := by decide +kernel
theorem dL_law_30 : decode cL_law 30 = .ok (.bipush 63, 2) := by decide +kernel
theorem dL_law_32 : decode cL_law 32 = .ok (.iand, 1) := by decide +kernel
theorem dL_law_33 : decode cL_law 33 = .ok (.tableswitch 1280 0 35 #[159, 212, 245, 288, 331, 354, 367, 390, 403, 446, 469, 482, 505, 528, 561, 584, 627, 660, 693, 736, 759, 782, 816, 850, 873, 886, 919, 932, 945, 988, 1011, 1044, 1067, 1110, 1183, 1217], 159) := by decide +kernel
theorem dL_law_192 : decode cL_law 192 = .ok (.aload_n 1, 1) := by decide +kernel
theorem dL_law_193 : decode cL_law 193 = .ok (.aload_n 0, 1) := by decide +kernel
theorem dL_law_194 : decode cL_law 194 = .ok (.iload_n 3, 1) := by decide +kernel
theorem dL_law_195 : decode cL_law 195 = .ok (.iconst 1, 1) := by decide +kernel
theorem dL_law_196 : decode cL_law 196 = .ok (.iadd, 1) := by decide +kernel
theorem dL_law_197 : decode cL_law 197 = .ok (.iaload, 1) := by decide +kernel
theorem dL_law_198 : decode cL_law 198 = .ok (.aload_n 0, 1) := by decide +kernel
theorem dL_law_199 : decode cL_law 199 = .ok (.iload_n 3, 1) := by decide +kernel
theorem dL_law_200 : decode cL_law 200 = .ok (.iconst 2, 1) := by decide +kernel
theorem dL_law_201 : decode cL_law 201 = .ok (.iadd, 1) := by decide +kernel
theorem dL_law_202 : decode cL_law 202 = .ok (.iaload, 1) := by decide +kernel
theorem dL_law_203 : decode cL_law 203 = .ok (.aload_n 0, 1) := by decide +kernel
theorem dL_law_204 : decode cL_law 204 = .ok (.iload_n 3, 1) := by decide +kernel
theorem dL_law_205 : decode cL_law 205 = .ok (.iconst 3, 1) := by decide +kernel
theorem dL_law_206 : decode cL_law 206 = .ok (.iadd, 1) := by decide +kernel
theorem dL_law_207 : decode cL_law 207 = .ok (.iaload, 1) := by decide +kernel
theorem dL_law_208 : decode cL_law 208 = .ok (.aload_n 0, 1) := by decide +kernel
theorem dL_law_209 : decode cL_law 209 = .ok (.iload_n 3, 1) := by decide +kernel
theorem dL_law_210 : decode cL_law 210 = .ok (.iconst 4, 1) := by decide +kernel
theorem dL_law_211 : decode cL_law 211 = .ok (.iadd, 1) := by decide +kernel
theorem dL_law_212 : decode cL_law 212 = .ok (.iaload, 1) := by decide +kernel
theorem dL_law_213 : decode cL_law 213 = .ok (.invokevirtual 13, 3) := by decide +kernel
theorem dL_law_216 : decode cL_law 216 = .ok (.aload_n 2, 1) := by decide +kernel
theorem dL_law_217 : decode cL_law 217 = .ok (.aload_n 0, 1) := by decide +kernel
theorem dL_law_218 : decode cL_law 218 = .ok (.iload_n 3, 1) := by decide +kernel
theorem dL_law_219 : decode cL_law 219 = .ok (.iconst 1, 1) := by decide +kernel
theorem dL_law_220 : decode cL_law 220 = .ok (.iadd, 1) := by decide +kernel
theorem dL_law_221 : decode cL_law 221 = .ok (.iaload, 1) := by decide +kernel
theorem dL_law_222 : decode cL_law 222 = .ok (.aload_n 0, 1) := by decide +kernel
theorem dL_law_223 : decode cL_law 223 = .ok (.iload_n 3, 1) := by decide +kernel
theorem dL_law_224 : decode cL_law 224 = .ok (.iconst 2, 1) := by decide +kernel
theorem dL_law_225 : decode cL_law 225 = .ok (.iadd, 1) := by decide +kernel
theorem dL_law_226 : decode cL_law 226 = .ok (.iaload, 1) := by decide +kernel
theorem dL_law_227 : decode cL_law 227 = .ok (.aload_n 0, 1) := by decide +kernel
theorem dL_law_228 : decode cL_law 228 = .ok (.iload_n 3, 1) := by decide +kernel
theorem dL_law_229 : decode cL_law 229 = .ok (.iconst 3, 1) := by decide +kernel
theorem dL_law_230 : decode cL_law 230 = .ok (.iadd, 1) := by decide +kernel
theorem dL_law_231 : decode cL_law 231 = .ok (.iaload, 1) := by decide +kernel
theorem dL_law_232 : decode cL_law 232 = .ok (.aload_n 0, 1) := by decide +kernel
theorem dL_law_233 : decode cL_law 233 = .ok (.iload_n 3, 1) := by decide +kernel
theorem dL_law_234 : decode cL_law 234 = .ok (.iconst 4, 1) := by decide +kernel
theorem dL_law_235 : decode cL_law 235 = .ok (.iadd, 1) := by decide +kernel
theorem dL_law_236 : decode cL_law 236 = .ok (.iaload, 1) := by decide +kernel
theorem dL_law_237 : decode cL_law 237 = .ok (.invokevirtual 17, 3) := by decide +kernel
theorem dL_law_240 : decode cL_law 240 = .ok (.if_icmp .eq 1073, 3) := by decide +kernel
theorem dL_law_243 : decode cL_law 243 = .ok (.iconst 0, 1) := by decide +kernel
theorem dL_law_244 : decode cL_law 244 = .ok (.ireturn, 1) := by decide +kernel
theorem dL_law_245 : decode cL_law 245 = .ok (.aload_n 1, 1) := by decide +kernel
theorem dL_law_246 : decode cL_law 246 = .ok (.aload_n 0, 1) := by decide +kernel
theorem dL_law_247 : decode cL_law 247 = .ok (.iload_n 3, 1) := by decide +kernel
theorem dL_law_248 : decode cL_law 248 = .ok (.iconst 1, 1) := by decide +kernel
theorem dL_law_249 : decode cL_law 249 = .ok (.iadd, 1) := by decide +kernel
theorem dL_law_250 : decode cL_law 250 = .ok (.iaload, 1) := by decide +kernel
theorem dL_law_251 : decode cL_law 251 = .ok (.aload_n 0, 1) := by decide +kernel
theorem dL_law_252 : decode cL_law 252 = .ok (.iload_n 3, 1) := by decide +kernel
theorem dL_law_253 : decode cL_law 253 = .ok (.iconst 2, 1) := by decide +kernel
theorem dL_law_254 : decode cL_law 254 = .ok (.iadd, 1) := by decide +kernel
theorem dL_law_255 : decode cL_law 255 = .ok (.iaload, 1) := by decide +kernel
theorem dL_law_256 : decode cL_law 256 = .ok (.invokevirtual 18, 3) := by decide +kernel
theorem dL_law_259 : decode cL_law 259 = .ok (.aload_n 2, 1) := by decide +kernel
theorem dL_law_260 : decode cL_law 260 = .ok (.aload_n 0, 1) := by decide +kernel
theorem dL_law_261 : decode cL_law 261 = .ok (.iload_n 3, 1) := by decide +kernel
theorem dL_law_262 : decode cL_law 262 = .ok (.iconst 1, 1) := by decide +kernel
theorem dL_law_263 : decode cL_law 263 = .ok (.iadd, 1) := by decide +kernel
theorem dL_law_264 : decode cL_law 264 = .ok (.iaload, 1) := by decide +kernel
theorem dL_law_265 : decode cL_law 265 = .ok (.aload_n 0, 1) := by decide +kernel
theorem dL_law_266 : decode cL_law 266 = .ok (.iload_n 3, 1) := by decide +kernel
theorem dL_law_267 : decode cL_law 267 = .ok (.iconst 2, 1) := by decide +kernel
theorem dL_law_268 : decode cL_law 268 = .ok (.iadd, 1) := by decide +kernel
theorem dL_law_269 : decode cL_law 269 = .ok (.iaload, 1) := by decide +kernel
theorem dL_law_270 : decode cL_law 270 = .ok (.invokevirtual 22, 3) := by decide +kernel
theorem dL_law_273 : decode cL_law 273 = .ok (.if_icmp .eq 1040, 3) := by decide +kernel
theorem dL_law_276 : decode cL_law 276 = .ok (.iconst 0, 1) := by decide +kernel
theorem dL_law_277 : decode cL_law 277 = .ok (.ireturn, 1) := by decide +kernel
theorem dL_law_278 : decode cL_law 278 = .ok (.aload_n 1, 1) := by decide +kernel
theorem dL_law_279 : decode cL_law 279 = .ok (.aload_n 0, 1) := by decide +kernel
theorem dL_law_280 : decode cL_law 280 = .ok (.iload_n 3, 1) := by decide +kernel
theorem dL_law_281 : decode cL_law 281 = .ok (.iconst 1, 1) := by decide +kernel
theorem dL_law_282 : decode cL_law 282 = .ok (.iadd, 1) := by decide +kernel
theorem dL_law_283 : decode cL_law 283 = .ok (.iaload, 1) := by decide +kernel
theorem dL_law_284 : decode cL_law 284 = .ok (.aload_n 0, 1) := by decide +kernel
theorem dL_law_285 : decode cL_law 285 = .ok (.iload_n 3, 1) := by decide +kernel
theorem dL_law_286 : decode cL_law 286 = .ok (.iconst 2, 1) := by decide +kernel
theorem dL_law_287 : decode cL_law 287 = .ok (.iadd, 1) := by decide +kernel
theorem dL_law_288 : decode cL_law 288 = .ok (.iaload, 1) := by decide +kernel
theorem dL_law_289 : decode cL_law 289 = .ok (.aload_n 0, 1) := by decide +kernel
theorem dL_law_290 : decode cL_law 290 = .ok (.iload_n 3, 1) := by decide +kernel
theorem dL_law_291 : decode cL_law 291 = .ok (.iconst 3, 1) := by decide +kernel
theorem dL_law_292 : decode cL_law 292 = .ok (.iadd, 1) := by decide +kernel
theorem dL_law_293 : decode cL_law 293 = .ok (.iaload, 1) := by decide +kernel
theorem dL_law_294 : decode cL_law 294 = .ok (.invokevirtual 23, 3) := by decide +kernel
theorem dL_law_297 : decode cL_law 297 = .ok (.aload_n 2, 1) := by decide +kernel
theorem dL_law_298 : decode cL_law 298 = .ok (.aload_n 0, 1) := by decide +kernel
theorem dL_law_299 : decode cL_law 299 = .ok (.iload_n 3, 1) := by decide +kernel
theorem dL_law_300 : decode cL_law 300 = .ok (.iconst 1, 1) := by decide +kernel
theorem dL_law_301 : decode cL_law 301 = .ok (.iadd, 1) := by decide +kernel
theorem dL_law_302 : decode cL_law 302 = .ok (.iaload, 1) := by decide +kernel
theorem dL_law_303 : decode cL_law 303 = .ok (.aload_n 0, 1) := by decide +kernel
theorem dL_law_304 : decode cL_law 304 = .ok (.iload_n 3, 1) := by decide +kernel
theorem dL_law_305 : decode cL_law 305 = .ok (.iconst 2, 1) := by decide +kernel
theorem dL_law_306 : decode cL_law 306 = .ok (.iadd, 1) := by decide +kernel
theorem dL_law_307 : decode cL_law 307 = .ok (.iaload, 1) := by decide +kernel
theorem dL_law_308 : decode cL_law 308 = .ok (.aload_n 0, 1) := by decide +kernel
theorem dL_law_309 : decode cL_law 309 = .ok (.iload_n 3, 1) := by decide +kernel
theorem dL_law_310 : decode cL_law 310 = .ok (.iconst 3, 1) := by decide +kernel
theorem dL_law_311 : decode cL_law 311 = .ok (.iadd, 1) := by decide +kernel
theorem dL_law_312 : decode cL_law 312 = .ok (.iaload, 1) := by decide +kernel
theorem dL_law_313 : decode cL_law 313 = .ok (.invokevirtual 27, 3) := by decide +kernel
theorem dL_law_316 : decode cL_law 316 = .ok (.if_icmp .eq 997, 3) := by decide +kernel
theorem dL_law_319 : decode cL_law 319 = .ok (.iconst 0, 1) := by decide +kernel
theorem dL_law_320 : decode cL_law 320 = .ok (.ireturn, 1) := by decide +kernel
theorem dL_law_321 : decode cL_law 321 = .ok (.aload_n 1, 1) := by decide +kernel
theorem dL_law_322 : decode cL_law 322 = .ok (.aload_n 0, 1) := by decide +kernel
theorem dL_law_323 : decode cL_law 323 = .ok (.iload_n 3, 1) := by decide +kernel
theorem dL_law_324 : decode cL_law 324 = .ok (.iconst 1, 1) := by decide +kernel
theorem dL_law_325 : decode cL_law 325 = .ok (.iadd, 1) := by decide +kernel
theorem dL_law_326 : decode cL_law 326 = .ok (.iaload, 1) := by decide +kernel
theorem dL_law_327 : decode cL_law 327 = .ok (.aload_n 0, 1) := by decide +kernel
theorem dL_law_328 : decode cL_law 328 = .ok (.iload_n 3, 1) := by decide +kernel
theorem dL_law_329 : decode cL_law 329 = .ok (.iconst 2, 1) := by decide +kernel
theorem dL_law_330 : decode cL_law 330 = .ok (.iadd, 1) := by decide +kernel
theorem dL_law_331 : decode cL_law 331 = .ok (.iaload, 1) := by decide +kernel
theorem dL_law_332 : decode cL_law 332 = .ok (.aload_n 0, 1) := by decide +kernel
theorem dL_law_333 : decode cL_law 333 = .ok (.iload_n 3, 1) := by decide +kernel
theorem dL_law_334 : decode cL_law 334 = .ok (.iconst 3, 1) := by decide +kernel
theorem dL_law_335 : decode cL_law 335 = .ok (.iadd, 1) := by decide +kernel
theorem dL_law_336 : decode cL_law 336 = .ok (.iaload, 1) := by decide +kernel
theorem dL_law_337 : decode cL_law 337 = .ok (.invokevirtual 28, 3) := by decide +kernel
theorem dL_law_340 : decode cL_law 340 = .ok (.aload_n 2, 1) := by decide +kernel
theorem dL_law_341 : decode cL_law 341 = .ok (.aload_n 0, 1) := by decide +kernel
theorem dL_law_342 : decode cL_law 342 = .ok (.iload_n 3, 1) := by decide +kernel
theorem dL_law_343 : decode cL_law 343 = .ok (.iconst 1, 1) := by decide +kernel
theorem dL_law_344 : decode cL_law 344 = .ok (.iadd, 1) := by decide +kernel
theorem dL_law_345 : decode cL_law 345 = .ok (.iaload, 1) := by decide +kernel
theorem dL_law_346 : decode cL_law 346 = .ok (.aload_n 0, 1) := by decide +kernel
theorem dL_law_347 : decode cL_law 347 = .ok (.iload_n 3, 1) := by decide +kernel
theorem dL_law_348 : decode cL_law 348 = .ok (.iconst 2, 1) := by decide +kernel
theorem dL_law_349 : decode cL_law 349 = .ok (.iadd, 1) := by decide +kernel
theorem dL_law_350 : decode cL_law 350 = .ok (.iaload, 1) := by decide +kernel
theorem dL_law_351 : decode cL_law 351 = .ok (.aload_n 0, 1) := by decide +kernel
theorem dL_law_352 : decode cL_law 352 = .ok (.iload_n 3, 1) := by decide +kernel
theorem dL_law_353 : decode cL_law 353 = .ok (.iconst 3, 1) := by decide +kernel
theorem dL_law_354 : decode cL_law 354 = .ok (.iadd, 1) := by decide +kernel
theorem dL_law_355 : decode cL_law 355 = .ok (.iaload, 1) := by decide +kernel
theorem dL_law_356 : decode cL_law 356 = .ok (.invokevirtual 31, 3) := by decide +kernel
theorem dL_law_359 : decode cL_law 359 = .ok (.if_icmp .eq 954, 3) := by decide +kernel
theorem dL_law_362 : decode cL_law 362 = .ok (.iconst 0, 1) := by decide +kernel
theorem dL_law_363 : decode cL_law 363 = .ok (.ireturn, 1) := by decide +kernel
theorem dL_law_364 : decode cL_law 364 = .ok (.aload_n 1, 1) := by decide +kernel
theorem dL_law_365 : decode cL_law 365 = .ok (.aload_n 0, 1) := by decide +kernel
theorem dL_law_366 : decode cL_law 366 = .ok (.iload_n 3, 1) := by decide +kernel
theorem dL_law_367 : decode cL_law 367 = .ok (.iconst 1, 1) := by decide +kernel
theorem dL_law_368 : decode cL_law 368 = .ok (.iadd, 1) := by decide +kernel
theorem dL_law_369 : decode cL_law 369 = .ok (.iaload, 1) := by decide +kernel
theorem dL_law_370 : decode cL_law 370 = .ok (.invokevirtual 32, 3) := by decide +kernel
theorem dL_law_373 : decode cL_law 373 = .ok (.aload_n 2, 1) := by decide +kernel
theorem dL_law_374 : decode cL_law 374 = .ok (.aload_n 0, 1) := by decide +kernel
theorem dL_law_375 : decode cL_law 375 = .ok (.iload_n 3, 1) := by decide +kernel
theorem dL_law_376 : decode cL_law 376 = .ok (.iconst 1, 1) := by decide +kernel
theorem dL_law_377 : decode cL_law 377 = .ok (.iadd, 1) := by decide +kernel
theorem dL_law_378 : decode cL_law 378 = .ok (.iaload, 1) := by decide +kernel
theorem dL_law_379 : decode cL_law 379 = .ok (.invokevirtual 36, 3) := by decide +kernel
theorem dL_law_382 : decode cL_law 382 = .ok (.if_icmp .eq 931, 3) := by decide +kernel
theorem dL_law_385 : decode cL_law 385 = .ok (.iconst 0, 1) := by decide +kernel
theorem dL_law_386 : decode cL_law 386 = .ok (.ireturn, 1) := by decide +kernel
theorem dL_law_387 : decode cL_law 387 = .ok (.aload_n 1, 1) := by decide +kernel
theorem dL_law_388 : decode cL_law 388 = .ok (.invokevirtual 37, 3) := by decide +kernel
theorem dL_law_391 : decode cL_law 391 = .ok (.aload_n 2, 1) := by decide +kernel
theorem dL_law_392 : decode cL_law 392 = .ok (.invokevirtual 41, 3) := by decide +kernel
theorem dL_law_395 : decode cL_law 395 = .ok (.if_icmp .eq 918, 3) := by decide +kernel
theorem dL_law_398 : decode cL_law 398 = .ok (.iconst 0, 1) := by decide +kernel
theorem dL_law_399 : decode cL_law 399 = .ok (.ireturn, 1) := by decide +kernel
theorem dL_law_400 : decode cL_law 400 = .ok (.aload_n 1, 1) := by decide +kernel
theorem dL_law_401 : decode cL_law 401 = .ok (.aload_n 0, 1) := by decide +kernel
theorem dL_law_402 : decode cL_law 402 = .ok (.iload_n 3, 1) := by decide +kernel
theorem dL_law_403 : decode cL_law 403 = .ok (.iconst 1, 1) := by decide +kernel
theorem dL_law_404 : decode cL_law 404 = .ok (.iadd, 1) := by decide +kernel
theorem dL_law_405 : decode cL_law 405 = .ok (.iaload, 1) := by decide +kernel
theorem dL_law_406 : decode cL_law 406 = .ok (.invokevirtual 42, 3) := by decide +kernel
theorem dL_law_409 : decode cL_law 409 = .ok (.aload_n 2, 1) := by decide +kernel
theorem dL_law_410 : decode cL_law 410 = .ok (.aload_n 0, 1) := by decide +kernel
theorem dL_law_411 : decode cL_law 411 = .ok (.iload_n 3, 1) := by decide +kernel
theorem dL_law_412 : decode cL_law 412 = .ok (.iconst 1, 1) := by decide +kernel
theorem dL_law_413 : decode cL_law 413 = .ok (.iadd, 1) := by decide +kernel
theorem dL_law_414 : decode cL_law 414 = .ok (.iaload, 1) := by decide +kernel
theorem dL_law_415 : decode cL_law 415 = .ok (.invokevirtual 45, 3) := by decide +kernel
theorem dL_law_418 : decode cL_law 418 = .ok (.if_icmp .eq 895, 3) := by decide +kernel
theorem dL_law_421 : decode cL_law 421 = .ok (.iconst 0, 1) := by decide +kernel
theorem dL_law_422 : decode cL_law 422 = .ok (.ireturn, 1) := by decide +kernel
theorem dL_law_423 : decode cL_law 423 = .ok (.aload_n 1, 1) := by decide +kernel
theorem dL_law_424 : decode cL_law 424 = .ok (.invokevirtual 46, 3) := by decide +kernel
theorem dL_law_427 : decode cL_law 427 = .ok (.aload_n 2, 1) := by decide +kernel
theorem dL_law_428 : decode cL_law 428 = .ok (.invokevirtual 49, 3) := by decide +kernel
theorem dL_law_431 : decode cL_law 431 = .ok (.if_icmp .eq 882, 3) := by decide +kernel
theorem dL_law_434 : decode cL_law 434 = .ok (.iconst 0, 1) := by decide +kernel
theorem dL_law_435 : decode cL_law 435 = .ok (.ireturn, 1) := by decide +kernel
theorem dL_law_436 : decode cL_law 436 = .ok (.aload_n 1, 1) := by decide +kernel
theorem dL_law_437 : decode cL_law 437 = .ok (.aload_n 0, 1) := by decide +kernel
theorem dL_law_438 : decode cL_law 438 = .ok (.iload_n 3, 1) := by decide +kernel
theorem dL_law_439 : decode cL_law 439 = .ok (.iconst 1, 1) := by decide +kernel
theorem dL_law_440 : decode cL_law 440 = .ok (.iadd, 1) := by decide +kernel
theorem dL_law_441 : decode cL_law 441 = .ok (.iaload, 1) := by decide +kernel
theorem dL_law_442 : decode cL_law 442 = .ok (.aload_n 0, 1) := by decide +kernel
theorem dL_law_443 : decode cL_law 443 = .ok (.iload_n 3, 1) := by decide +kernel
theorem dL_law_444 : decode cL_law 444 = .ok (.iconst 2, 1) := by decide +kernel
theorem dL_law_445 : decode cL_law 445 = .ok (.iadd, 1) := by decide +kernel
theorem dL_law_446 : decode cL_law 446 = .ok (.iaload, 1) := by decide +kernel
theorem dL_law_447 : decode cL_law 447 = .ok (.aload_n 0, 1) := by decide +kernel
theorem dL_law_448 : decode cL_law 448 = .ok (.iload_n 3, 1) := by decide +kernel
theorem dL_law_449 : decode cL_law 449 = .ok (.iconst 3, 1) := by decide +kernel
theorem dL_law_450 : decode cL_law 450 = .ok (.iadd, 1) := by decide +kernel
theorem dL_law_451 : decode cL_law 451 = .ok (.iaload, 1) := by decide +kernel
theorem dL_law_452 : decode cL_law 452 = .ok (.invokevirtual 50, 3) := by decide +kernel
theorem dL_law_455 : decode cL_law 455 = .ok (.aload_n 2, 1) := by decide +kernel
theorem dL_law_456 : decode cL_law 456 = .ok (.aload_n 0, 1) := by decide +kernel
theorem dL_law_457 : decode cL_law 457 = .ok (.iload_n 3, 1) := by decide +kernel
theorem dL_law_458 : decode cL_law 458 = .ok (.iconst 1, 1) := by decide +kernel
theorem dL_law_459 : decode cL_law 459 = .ok (.iadd, 1) := by decide +kernel
theorem dL_law_460 : decode cL_law 460 = .ok (.iaload, 1) := by decide +kernel
theorem dL_law_461 : decode cL_law 461 = .ok (.aload_n 0, 1) := by decide +kernel
theorem dL_law_462 : decode cL_law 462 = .ok (.iload_n 3, 1) := by decide +kernel
theorem dL_law_463 : decode cL_law 463 = .ok (.iconst 2, 1) := by decide +kernel
theorem dL_law_464 : decode cL_law 464 = .ok (.iadd, 1) := by decide +kernel
theorem dL_law_465 : decode cL_law 465 = .ok (.iaload, 1) := by decide +kernel
theorem dL_law_466 : decode cL_law 466 = .ok (.aload_n 0, 1) := by decide +kernel
theorem dL_law_467 : decode cL_law 467 = .ok (.iload_n 3, 1) := by decide +kernel
theorem dL_law_468 : decode cL_law 468 = .ok (.iconst 3, 1) := by decide +kernel
theorem dL_law_469 : decode cL_law 469 = .ok (.iadd, 1) := by decide +kernel
theorem dL_law_470 : decode cL_law 470 = .ok (.iaload, 1) := by decide +kernel
theorem dL_law_471 : decode cL_law 471 = .ok (.invokevirtual 53, 3) := by decide +kernel
theorem dL_law_474 : decode cL_law 474 = .ok (.if_icmp .eq 839, 3) := by decide +kernel
theorem dL_law_477 : decode cL_law 477 = .ok (.iconst 0, 1) := by decide +kernel
theorem dL_law_478 : decode cL_law 478 = .ok (.ireturn, 1) := by decide +kernel
theorem dL_law_479 : decode cL_law 479 = .ok (.aload_n 1, 1) := by decide +kernel
theorem dL_law_480 : decode cL_law 480 = .ok (.aload_n 0, 1) := by decide +kernel
theorem dL_law_481 : decode cL_law 481 = .ok (.iload_n 3, 1) := by decide +kernel
theorem dL_law_482 : decode cL_law 482 = .ok (.iconst 1, 1) := by decide +kernel
theorem dL_law_483 : decode cL_law 483 = .ok (.iadd, 1) := by decide +kernel
theorem dL_law_484 : decode cL_law 484 = .ok (.iaload, 1) := by decide +kernel
theorem dL_law_485 : decode cL_law 485 = .ok (.invokevirtual 54, 3) := by decide +kernel
theorem dL_law_488 : decode cL_law 488 = .ok (.aload_n 2, 1) := by decide +kernel
theorem dL_law_489 : decode cL_law 489 = .ok (.aload_n 0, 1) := by decide +kernel
theorem dL_law_490 : decode cL_law 490 = .ok (.iload_n 3, 1) := by decide +kernel
theorem dL_law_491 : decode cL_law 491 = .ok (.iconst 1, 1) := by decide +kernel
theorem dL_law_492 : decode cL_law 492 = .ok (.iadd, 1) := by decide +kernel
theorem dL_law_493 : decode cL_law 493 = .ok (.iaload, 1) := by decide +kernel
theorem dL_law_494 : decode cL_law 494 = .ok (.invokevirtual 57, 3) := by decide +kernel
theorem dL_law_497 : decode cL_law 497 = .ok (.if_icmp .eq 816, 3) := by decide +kernel
theorem dL_law_500 : decode cL_law 500 = .ok (.iconst 0, 1) := by decide +kernel
theorem dL_law_501 : decode cL_law 501 = .ok (.ireturn, 1) := by decide +kernel
theorem dL_law_502 : decode cL_law 502 = .ok (.aload_n 1, 1) := by decide +kernel
theorem dL_law_503 : decode cL_law 503 = .ok (.invokevirtual 58, 3) := by decide +kernel
theorem dL_law_506 : decode cL_law 506 = .ok (.aload_n 2, 1) := by decide +kernel
theorem dL_law_507 : decode cL_law 507 = .ok (.invokevirtual 61, 3) := by decide +kernel
theorem dL_law_510 : decode cL_law 510 = .ok (.if_icmp .eq 803, 3) := by decide +kernel
theorem dL_law_513 : decode cL_law 513 = .ok (.iconst 0, 1) := by decide +kernel
theorem dL_law_514 : decode cL_law 514 = .ok (.ireturn, 1) := by decide +kernel
theorem dL_law_515 : decode cL_law 515 = .ok (.aload_n 1, 1) := by decide +kernel
theorem dL_law_516 : decode cL_law 516 = .ok (.aload_n 0, 1) := by decide +kernel
theorem dL_law_517 : decode cL_law 517 = .ok (.iload_n 3, 1) := by decide +kernel
theorem dL_law_518 : decode cL_law 518 = .ok (.iconst 1, 1) := by decide +kernel
theorem dL_law_519 : decode cL_law 519 = .ok (.iadd, 1) := by decide +kernel
theorem dL_law_520 : decode cL_law 520 = .ok (.iaload, 1) := by decide +kernel
theorem dL_law_521 : decode cL_law 521 = .ok (.invokevirtual 62, 3) := by decide +kernel
theorem dL_law_524 : decode cL_law 524 = .ok (.aload_n 2, 1) := by decide +kernel
theorem dL_law_525 : decode cL_law 525 = .ok (.aload_n 0, 1) := by decide +kernel
theorem dL_law_526 : decode cL_law 526 = .ok (.iload_n 3, 1) := by decide +kernel
theorem dL_law_527 : decode cL_law 527 = .ok (.iconst 1, 1) := by decide +kernel
theorem dL_law_528 : decode cL_law 528 = .ok (.iadd, 1) := by decide +kernel
theorem dL_law_529 : decode cL_law 529 = .ok (.iaload, 1) := by decide +kernel
theorem dL_law_530 : decode cL_law 530 = .ok (.invokevirtual 65, 3) := by decide +kernel
theorem dL_law_533 : decode cL_law 533 = .ok (.if_icmp .eq 780, 3) := by decide +kernel
theorem dL_law_536 : decode cL_law 536 = .ok (.iconst 0, 1) := by decide +kernel
theorem dL_law_537 : decode cL_law 537 = .ok (.ireturn, 1) := by decide +kernel
theorem dL_law_538 : decode cL_law 538 = .ok (.aload_n 1, 1) := by decide +kernel
theorem dL_law_539 : decode cL_law 539 = .ok (.aload_n 0, 1) := by decide +kernel
theorem dL_law_540 : decode cL_law 540 = .ok (.iload_n 3, 1) := by decide +kernel
theorem dL_law_541 : decode cL_law 541 = .ok (.iconst 1, 1) := by decide +kernel
theorem dL_law_542 : decode cL_law 542 = .ok (.iadd, 1) := by decide +kernel
theorem dL_law_543 : decode cL_law 543 = .ok (.iaload, 1) := by decide +kernel
theorem dL_law_544 : decode cL_law 544 = .ok (.invokevirtual 66, 3) := by decide +kernel
theorem dL_law_547 : decode cL_law 547 = .ok (.aload_n 2, 1) := by decide +kernel
theorem dL_law_548 : decode cL_law 548 = .ok (.aload_n 0, 1) := by decide +kernel
theorem dL_law_549 : decode cL_law 549 = .ok (.iload_n 3, 1) := by decide +kernel
theorem dL_law_550 : decode cL_law 550 = .ok (.iconst 1, 1) := by decide +kernel
theorem dL_law_551 : decode cL_law 551 = .ok (.iadd, 1) := by decide +kernel
theorem dL_law_552 : decode cL_law 552 = .ok (.iaload, 1) := by decide +kernel
theorem dL_law_553 : decode cL_law 553 = .ok (.invokevirtual 69, 3) := by decide +kernel
theorem dL_law_556 : decode cL_law 556 = .ok (.if_icmp .eq 757, 3) := by decide +kernel
theorem dL_law_559 : decode cL_law 559 = .ok (.iconst 0, 1) := by decide +kernel
theorem dL_law_560 : decode cL_law 560 = .ok (.ireturn, 1) := by decide +kernel
theorem dL_law_561 : decode cL_law 561 = .ok (.aload_n 1, 1) := by decide +kernel
theorem dL_law_562 : decode cL_law 562 = .ok (.aload_n 0, 1) := by decide +kernel
theorem dL_law_563 : decode cL_law 563 = .ok (.iload_n 3, 1) := by decide +kernel
theorem dL_law_564 : decode cL_law 564 = .ok (.iconst 1, 1) := by decide +kernel
theorem dL_law_565 : decode cL_law 565 = .ok (.iadd, 1) := by decide +kernel
theorem dL_law_566 : decode cL_law 566 = .ok (.iaload, 1) := by decide +kernel
theorem dL_law_567 : decode cL_law 567 = .ok (.aload_n 0, 1) := by decide +kernel
theorem dL_law_568 : decode cL_law 568 = .ok (.iload_n 3, 1) := by decide +kernel
theorem dL_law_569 : decode cL_law 569 = .ok (.iconst 2, 1) := by decide +kernel
theorem dL_law_570 : decode cL_law 570 = .ok (.iadd, 1) := by decide +kernel
theorem dL_law_571 : decode cL_law 571 = .ok (.iaload, 1) := by decide +kernel
theorem dL_law_572 : decode cL_law 572 = .ok (.invokevirtual 70, 3) := by decide +kernel
theorem dL_law_575 : decode cL_law 575 = .ok (.aload_n 2, 1) := by decide +kernel
theorem dL_law_576 : decode cL_law 576 = .ok (.aload_n 0, 1) := by decide +kernel
theorem dL_law_577 : decode cL_law 577 = .ok (.iload_n 3, 1) := by decide +kernel
theorem dL_law_578 : decode cL_law 578 = .ok (.iconst 1, 1) := by decide +kernel
theorem dL_law_579 : decode cL_law 579 = .ok (.iadd, 1) := by decide +kernel
theorem dL_law_580 : decode cL_law 580 = .ok (.iaload, 1) := by decide +kernel
theorem dL_law_581 : decode cL_law 581 = .ok (.aload_n 0, 1) := by decide +kernel
theorem dL_law_582 : decode cL_law 582 = .ok (.iload_n 3, 1) := by decide +kernel
theorem dL_law_583 : decode cL_law 583 = .ok (.iconst 2, 1) := by decide +kernel
theorem dL_law_584 : decode cL_law 584 = .ok (.iadd, 1) := by decide +kernel
theorem dL_law_585 : decode cL_law 585 = .ok (.iaload, 1) := by decide +kernel
theorem dL_law_586 : decode cL_law 586 = .ok (.invokevirtual 73, 3) := by decide +kernel
theorem dL_law_589 : decode cL_law 589 = .ok (.if_icmp .eq 724, 3) := by decide +kernel
theorem dL_law_592 : decode cL_law 592 = .ok (.iconst 0, 1) := by decide +kernel
theorem dL_law_593 : decode cL_law 593 = .ok (.ireturn, 1) := by decide +kernel
theorem dL_law_594 : decode cL_law 594 = .ok (.aload_n 1, 1) := by decide +kernel
theorem dL_law_595 : decode cL_law 595 = .ok (.aload_n 0, 1) := by decide +kernel
theorem dL_law_596 : decode cL_law 596 = .ok (.iload_n 3, 1) := by decide +kernel
theorem dL_law_597 : decode cL_law 597 = .ok (.iconst 1, 1) := by decide +kernel
theorem dL_law_598 : decode cL_law 598 = .ok (.iadd, 1) := by decide +kernel
theorem dL_law_599 : decode cL_law 599 = .ok (.iaload, 1) := by decide +kernel
theorem dL_law_600 : decode cL_law 600 = .ok (.invokevirtual 74, 3) := by decide +kernel
theorem dL_law_603 : decode cL_law 603 = .ok (.aload_n 2, 1) := by decide +kernel
theorem dL_law_604 : decode cL_law 604 = .ok (.aload_n 0, 1) := by decide +kernel
theorem dL_law_605 : decode cL_law 605 = .ok (.iload_n 3, 1) := by decide +kernel
theorem dL_law_606 : decode cL_law 606 = .ok (.iconst 1, 1) := by decide +kernel
theorem dL_law_607 : decode cL_law 607 = .ok (.iadd, 1) := by decide +kernel
theorem dL_law_608 : decode cL_law 608 = .ok (.iaload, 1) := by decide +kernel
theorem dL_law_609 : decode cL_law 609 = .ok (.invokevirtual 77, 3) := by decide +kernel
theorem dL_law_612 : decode cL_law 612 = .ok (.if_icmp .eq 701, 3) := by decide +kernel
theorem dL_law_615 : decode cL_law 615 = .ok (.iconst 0, 1) := by decide +kernel
theorem dL_law_616 : decode cL_law 616 = .ok (.ireturn, 1) := by decide +kernel
theorem dL_law_617 : decode cL_law 617 = .ok (.aload_n 1, 1) := by decide +kernel
theorem dL_law_618 : decode cL_law 618 = .ok (.aload_n 0, 1) := by decide +kernel
theorem dL_law_619 : decode cL_law 619 = .ok (.iload_n 3, 1) := by decide +kernel
theorem dL_law_620 : decode cL_law 620 = .ok (.iconst 1, 1) := by decide +kernel
theorem dL_law_621 : decode cL_law 621 = .ok (.iadd, 1) := by decide +kernel
theorem dL_law_622 : decode cL_law 622 = .ok (.iaload, 1) := by decide +kernel
theorem dL_law_623 : decode cL_law 623 = .ok (.aload_n 0, 1) := by decide +kernel
theorem dL_law_624 : decode cL_law 624 = .ok (.iload_n 3, 1) := by decide +kernel
theorem dL_law_625 : decode cL_law 625 = .ok (.iconst 2, 1) := by decide +kernel
theorem dL_law_626 : decode cL_law 626 = .ok (.iadd, 1) := by decide +kernel
theorem dL_law_627 : decode cL_law 627 = .ok (.iaload, 1) := by decide +kernel
theorem dL_law_628 : decode cL_law 628 = .ok (.aload_n 0, 1) := by decide +kernel
theorem dL_law_629 : decode cL_law 629 = .ok (.iload_n 3, 1) := by decide +kernel
theorem dL_law_630 : decode cL_law 630 = .ok (.iconst 3, 1) := by decide +kernel
theorem dL_law_631 : decode cL_law 631 = .ok (.iadd, 1) := by decide +kernel
theorem dL_law_632 : decode cL_law 632 = .ok (.iaload, 1) := by decide +kernel
theorem dL_law_633 : decode cL_law 633 = .ok (.invokevirtual 78, 3) := by decide +kernel
theorem dL_law_636 : decode cL_law 636 = .ok (.aload_n 2, 1) := by decide +kernel
theorem dL_law_637 : decode cL_law 637 = .ok (.aload_n 0, 1) := by decide +kernel
theorem dL_law_638 : decode cL_law 638 = .ok (.iload_n 3, 1) := by decide +kernel
theorem dL_law_639 : decode cL_law 639 = .ok (.iconst 1, 1) := by decide +kernel
theorem dL_law_640 : decode cL_law 640 = .ok (.iadd, 1) := by decide +kernel
theorem dL_law_641 : decode cL_law 641 = .ok (.iaload, 1) := by decide +kernel
theorem dL_law_642 : decode cL_law 642 = .ok (.aload_n 0, 1) := by decide +kernel
theorem dL_law_643 : decode cL_law 643 = .ok (.iload_n 3, 1) := by decide +kernel
theorem dL_law_644 : decode cL_law 644 = .ok (.iconst 2, 1) := by decide +kernel
theorem dL_law_645 : decode cL_law 645 = .ok (.iadd, 1) := by decide +kernel
theorem dL_law_646 : decode cL_law 646 = .ok (.iaload, 1) := by decide +kernel
theorem dL_law_647 : decode cL_law 647 = .ok (.aload_n 0, 1) := by decide +kernel
theorem dL_law_648 : decode cL_law 648 = .ok (.iload_n 3, 1) := by decide +kernel
theorem dL_law_649 : decode cL_law 649 = .ok (.iconst 3, 1) := by decide +kernel
theorem dL_law_650 : decode cL_law 650 = .ok (.iadd, 1) := by decide +kernel
theorem dL_law_651 : decode cL_law 651 = .ok (.iaload, 1) := by decide +kernel
theorem dL_law_652 : decode cL_law 652 = .ok (.invokevirtual 81, 3) := by decide +kernel
theorem dL_law_655 : decode cL_law 655 = .ok (.if_icmp .eq 658, 3) := by decide +kernel
theorem dL_law_658 : decode cL_law 658 = .ok (.iconst 0, 1) := by decide +kernel
theorem dL_law_659 : decode cL_law 659 = .ok (.ireturn, 1) := by decide +kernel
theorem dL_law_660 : decode cL_law 660 = .ok (.aload_n 1, 1) := by decide +kernel
theorem dL_law_661 : decode cL_law 661 = .ok (.aload_n 0, 1) := by decide +kernel
theorem dL_law_662 : decode cL_law 662 = .ok (.iload_n 3, 1) := by decide +kernel
theorem dL_law_663 : decode cL_law 663 = .ok (.iconst 1, 1) := by decide +kernel
theorem dL_law_664 : decode cL_law 664 = .ok (.iadd, 1) := by decide +kernel
theorem dL_law_665 : decode cL_law 665 = .ok (.iaload, 1) := by decide +kernel
theorem dL_law_666 : decode cL_law 666 = .ok (.aload_n 0, 1) := by decide +kernel
theorem dL_law_667 : decode cL_law 667 = .ok (.iload_n 3, 1) := by decide +kernel
theorem dL_law_668 : decode cL_law 668 = .ok (.iconst 2, 1) := by decide +kernel
theorem dL_law_669 : decode cL_law 669 = .ok (.iadd, 1) := by decide +kernel
theorem dL_law_670 : decode cL_law 670 = .ok (.iaload, 1) := by decide +kernel
theorem dL_law_671 : decode cL_law 671 = .ok (.invokevirtual 82, 3) := by decide +kernel
theorem dL_law_674 : decode cL_law 674 = .ok (.aload_n 2, 1) := by decide +kernel
theorem dL_law_675 : decode cL_law 675 = .ok (.aload_n 0, 1) := by decide +kernel
theorem dL_law_676 : decode cL_law 676 = .ok (.iload_n 3, 1) := by decide +kernel
theorem dL_law_677 : decode cL_law 677 = .ok (.iconst 1, 1) := by decide +kernel
theorem dL_law_678 : decode cL_law 678 = .ok (.iadd, 1) := by decide +kernel
theorem dL_law_679 : decode cL_law 679 = .ok (.iaload, 1) := by decide +kernel
theorem dL_law_680 : decode cL_law 680 = .ok (.aload_n 0, 1) := by decide +kernel
theorem dL_law_681 : decode cL_law 681 = .ok (.iload_n 3, 1) := by decide +kernel
theorem dL_law_682 : decode cL_law 682 = .ok (.iconst 2, 1) := by decide +kernel
theorem dL_law_683 : decode cL_law 683 = .ok (.iadd, 1) := by decide +kernel
theorem dL_law_684 : decode cL_law 684 = .ok (.iaload, 1) := by decide +kernel
theorem dL_law_685 : decode cL_law 685 = .ok (.invokevirtual 85, 3) := by decide +kernel
theorem dL_law_688 : decode cL_law 688 = .ok (.if_icmp .eq 625, 3) := by decide +kernel
theorem dL_law_691 : decode cL_law 691 = .ok (.iconst 0, 1) := by decide +kernel
theorem dL_law_692 : decode cL_law 692 = .ok (.ireturn, 1) := by decide +kernel
theorem dL_law_693 : decode cL_law 693 = .ok (.aload_n 1, 1) := by decide +kernel
theorem dL_law_694 : decode cL_law 694 = .ok (.aload_n 0, 1) := by decide +kernel
theorem dL_law_695 : decode cL_law 695 = .ok (.iload_n 3, 1) := by decide +kernel
theorem dL_law_696 : decode cL_law 696 = .ok (.iconst 1, 1) := by decide +kernel
theorem dL_law_697 : decode cL_law 697 = .ok (.iadd, 1) := by decide +kernel
theorem dL_law_698 : decode cL_law 698 = .ok (.iaload, 1) := by decide +kernel
theorem dL_law_699 : decode cL_law 699 = .ok (.aload_n 0, 1) := by decide +kernel
theorem dL_law_700 : decode cL_law 700 = .ok (.iload_n 3, 1) := by decide +kernel
theorem dL_law_701 : decode cL_law 701 = .ok (.iconst 2, 1) := by decide +kernel
theorem dL_law_702 : decode cL_law 702 = .ok (.iadd, 1) := by decide +kernel
theorem dL_law_703 : decode cL_law 703 = .ok (.iaload, 1) := by decide +kernel
theorem dL_law_704 : decode cL_law 704 = .ok (.invokevirtual 86, 3) := by decide +kernel
theorem dL_law_707 : decode cL_law 707 = .ok (.aload_n 2, 1) := by decide +kernel
theorem dL_law_708 : decode cL_law 708 = .ok (.aload_n 0, 1) := by decide +kernel
theorem dL_law_709 : decode cL_law 709 = .ok (.iload_n 3, 1) := by decide +kernel
theorem dL_law_710 : decode cL_law 710 = .ok (.iconst 1, 1) := by decide +kernel
theorem dL_law_711 : decode cL_law 711 = .ok (.iadd, 1) := by decide +kernel
theorem dL_law_712 : decode cL_law 712 = .ok (.iaload, 1) := by decide +kernel
theorem dL_law_713 : decode cL_law 713 = .ok (.aload_n 0, 1) := by decide +kernel
theorem dL_law_714 : decode cL_law 714 = .ok (.iload_n 3, 1) := by decide +kernel
theorem dL_law_715 : decode cL_law 715 = .ok (.iconst 2, 1) := by decide +kernel
theorem dL_law_716 : decode cL_law 716 = .ok (.iadd, 1) := by decide +kernel
theorem dL_law_717 : decode cL_law 717 = .ok (.iaload, 1) := by decide +kernel
theorem dL_law_718 : decode cL_law 718 = .ok (.invokevirtual 89, 3) := by decide +kernel
theorem dL_law_721 : decode cL_law 721 = .ok (.if_icmp .eq 592, 3) := by decide +kernel
theorem dL_law_724 : decode cL_law 724 = .ok (.iconst 0, 1) := by decide +kernel
theorem dL_law_725 : decode cL_law 725 = .ok (.ireturn, 1) := by decide +kernel
theorem dL_law_726 : decode cL_law 726 = .ok (.aload_n 1, 1) := by decide +kernel
theorem dL_law_727 : decode cL_law 727 = .ok (.aload_n 0, 1) := by decide +kernel
theorem dL_law_728 : decode cL_law 728 = .ok (.iload_n 3, 1) := by decide +kernel
theorem dL_law_729 : decode cL_law 729 = .ok (.iconst 1, 1) := by decide +kernel
theorem dL_law_730 : decode cL_law 730 = .ok (.iadd, 1) := by decide +kernel
theorem dL_law_731 : decode cL_law 731 = .ok (.iaload, 1) := by decide +kernel
theorem dL_law_732 : decode cL_law 732 = .ok (.aload_n 0, 1) := by decide +kernel
theorem dL_law_733 : decode cL_law 733 = .ok (.iload_n 3, 1) := by decide +kernel
theorem dL_law_734 : decode cL_law 734 = .ok (.iconst 2, 1) := by decide +kernel
theorem dL_law_735 : decode cL_law 735 = .ok (.iadd, 1) := by decide +kernel
theorem dL_law_736 : decode cL_law 736 = .ok (.iaload, 1) := by decide +kernel
theorem dL_law_737 : decode cL_law 737 = .ok (.aload_n 0, 1) := by decide +kernel
theorem dL_law_738 : decode cL_law 738 = .ok (.iload_n 3, 1) := by decide +kernel
theorem dL_law_739 : decode cL_law 739 = .ok (.iconst 3, 1) := by decide +kernel
theorem dL_law_740 : decode cL_law 740 = .ok (.iadd, 1) := by decide +kernel
theorem dL_law_741 : decode cL_law 741 = .ok (.iaload, 1) := by decide +kernel
theorem dL_law_742 : decode cL_law 742 = .ok (.invokevirtual 90, 3) := by decide +kernel
theorem dL_law_745 : decode cL_law 745 = .ok (.aload_n 2, 1) := by decide +kernel
theorem dL_law_746 : decode cL_law 746 = .ok (.aload_n 0, 1) := by decide +kernel
theorem dL_law_747 : decode cL_law 747 = .ok (.iload_n 3, 1) := by decide +kernel
theorem dL_law_748 : decode cL_law 748 = .ok (.iconst 1, 1) := by decide +kernel
theorem dL_law_749 : decode cL_law 749 = .ok (.iadd, 1) := by decide +kernel
theorem dL_law_750 : decode cL_law 750 = .ok (.iaload, 1) := by decide +kernel
theorem dL_law_751 : decode cL_law 751 = .ok (.aload_n 0, 1) := by decide +kernel
theorem dL_law_752 : decode cL_law 752 = .ok (.iload_n 3, 1) := by decide +kernel
theorem dL_law_753 : decode cL_law 753 = .ok (.iconst 2, 1) := by decide +kernel
theorem dL_law_754 : decode cL_law 754 = .ok (.iadd, 1) := by decide +kernel
theorem dL_law_755 : decode cL_law 755 = .ok (.iaload, 1) := by decide +kernel
theorem dL_law_756 : decode cL_law 756 = .ok (.aload_n 0, 1) := by decide +kernel
theorem dL_law_757 : decode cL_law 757 = .ok (.iload_n 3, 1) := by decide +kernel
theorem dL_law_758 : decode cL_law 758 = .ok (.iconst 3, 1) := by decide +kernel
theorem dL_law_759 : decode cL_law 759 = .ok (.iadd, 1) := by decide +kernel
theorem dL_law_760 : decode cL_law 760 = .ok (.iaload, 1) := by decide +kernel
theorem dL_law_761 : decode cL_law 761 = .ok (.invokevirtual 93, 3) := by decide +kernel
theorem dL_law_764 : decode cL_law 764 = .ok (.if_icmp .eq 549, 3) := by decide +kernel
theorem dL_law_767 : decode cL_law 767 = .ok (.iconst 0, 1) := by decide +kernel
theorem dL_law_768 : decode cL_law 768 = .ok (.ireturn, 1) := by decide +kernel
theorem dL_law_769 : decode cL_law 769 = .ok (.aload_n 1, 1) := by decide +kernel
theorem dL_law_770 : decode cL_law 770 = .ok (.aload_n 0, 1) := by decide +kernel
theorem dL_law_771 : decode cL_law 771 = .ok (.iload_n 3, 1) := by decide +kernel
theorem dL_law_772 : decode cL_law 772 = .ok (.iconst 1, 1) := by decide +kernel
theorem dL_law_773 : decode cL_law 773 = .ok (.iadd, 1) := by decide +kernel
theorem dL_law_774 : decode cL_law 774 = .ok (.iaload, 1) := by decide +kernel
theorem dL_law_775 : decode cL_law 775 = .ok (.invokevirtual 94, 3) := by decide +kernel
theorem dL_law_778 : decode cL_law 778 = .ok (.aload_n 2, 1) := by decide +kernel
theorem dL_law_779 : decode cL_law 779 = .ok (.aload_n 0, 1) := by decide +kernel
theorem dL_law_780 : decode cL_law 780 = .ok (.iload_n 3, 1) := by decide +kernel
theorem dL_law_781 : decode cL_law 781 = .ok (.iconst 1, 1) := by decide +kernel
theorem dL_law_782 : decode cL_law 782 = .ok (.iadd, 1) := by decide +kernel
theorem dL_law_783 : decode cL_law 783 = .ok (.iaload, 1) := by decide +kernel
theorem dL_law_784 : decode cL_law 784 = .ok (.invokevirtual 97, 3) := by decide +kernel
theorem dL_law_787 : decode cL_law 787 = .ok (.if_icmp .eq 526, 3) := by decide +kernel
theorem dL_law_790 : decode cL_law 790 = .ok (.iconst 0, 1) := by decide +kernel
theorem dL_law_791 : decode cL_law 791 = .ok (.ireturn, 1) := by decide +kernel
theorem dL_law_792 : decode cL_law 792 = .ok (.aload_n 1, 1) := by decide +kernel
theorem dL_law_793 : decode cL_law 793 = .ok (.aload_n 0, 1) := by decide +kernel
theorem dL_law_794 : decode cL_law 794 = .ok (.iload_n 3, 1) := by decide +kernel
theorem dL_law_795 : decode cL_law 795 = .ok (.iconst 1, 1) := by decide +kernel
theorem dL_law_796 : decode cL_law 796 = .ok (.iadd, 1) := by decide +kernel
theorem dL_law_797 : decode cL_law 797 = .ok (.iaload, 1) := by decide +kernel
theorem dL_law_798 : decode cL_law 798 = .ok (.invokevirtual 98, 3) := by decide +kernel
theorem dL_law_801 : decode cL_law 801 = .ok (.aload_n 2, 1) := by decide +kernel
theorem dL_law_802 : decode cL_law 802 = .ok (.aload_n 0, 1) := by decide +kernel
theorem dL_law_803 : decode cL_law 803 = .ok (.iload_n 3, 1) := by decide +kernel
theorem dL_law_804 : decode cL_law 804 = .ok (.iconst 1, 1) := by decide +kernel
theorem dL_law_805 : decode cL_law 805 = .ok (.iadd, 1) := by decide +kernel
theorem dL_law_806 : decode cL_law 806 = .ok (.iaload, 1) := by decide +kernel
theorem dL_law_807 : decode cL_law 807 = .ok (.invokevirtual 101, 3) := by decide +kernel
theorem dL_law_810 : decode cL_law 810 = .ok (.if_icmp .eq 503, 3) := by decide +kernel
theorem dL_law_813 : decode cL_law 813 = .ok (.iconst 0, 1) := by decide +kernel
theorem dL_law_814 : decode cL_law 814 = .ok (.ireturn, 1) := by decide +kernel
theorem dL_law_815 : decode cL_law 815 = .ok (.aload_n 1, 1) := by decide +kernel
theorem dL_law_816 : decode cL_law 816 = .ok (.aload_n 0, 1) := by decide +kernel
theorem dL_law_817 : decode cL_law 817 = .ok (.iload_n 3, 1) := by decide +kernel
theorem dL_law_818 : decode cL_law 818 = .ok (.iconst 1, 1) := by decide +kernel
theorem dL_law_819 : decode cL_law 819 = .ok (.iadd, 1) := by decide +kernel
theorem dL_law_820 : decode cL_law 820 = .ok (.iaload, 1) := by decide +kernel
theorem dL_law_821 : decode cL_law 821 = .ok (.aload_n 0, 1) := by decide +kernel
theorem dL_law_822 : decode cL_law 822 = .ok (.iload_n 3, 1) := by decide +kernel
theorem dL_law_823 : decode cL_law 823 = .ok (.iconst 2, 1) := by decide +kernel
theorem dL_law_824 : decode cL_law 824 = .ok (.iadd, 1) := by decide +kernel
theorem dL_law_825 : decode cL_law 825 = .ok (.iaload, 1) := by decide +kernel
theorem dL_law_826 : decode cL_law 826 = .ok (.invokevirtual 102, 3) := by decide +kernel
theorem dL_law_829 : decode cL_law 829 = .ok (.aload_n 2, 1) := by decide +kernel
theorem dL_law_830 : decode cL_law 830 = .ok (.aload_n 0, 1) := by decide +kernel
theorem dL_law_831 : decode cL_law 831 = .ok (.iload_n 3, 1) := by decide +kernel
theorem dL_law_832 : decode cL_law 832 = .ok (.iconst 1, 1) := by decide +kernel
theorem dL_law_833 : decode cL_law 833 = .ok (.iadd, 1) := by decide +kernel
theorem dL_law_834 : decode cL_law 834 = .ok (.iaload, 1) := by decide +kernel
theorem dL_law_835 : decode cL_law 835 = .ok (.aload_n 0, 1) := by decide +kernel
theorem dL_law_836 : decode cL_law 836 = .ok (.iload_n 3, 1) := by decide +kernel
theorem dL_law_837 : decode cL_law 837 = .ok (.iconst 2, 1) := by decide +kernel
theorem dL_law_838 : decode cL_law 838 = .ok (.iadd, 1) := by decide +kernel
theorem dL_law_839 : decode cL_law 839 = .ok (.iaload, 1) := by decide +kernel
theorem dL_law_840 : decode cL_law 840 = .ok (.invokevirtual 106, 3) := by decide +kernel
theorem dL_law_843 : decode cL_law 843 = .ok (.lcmp, 1) := by decide +kernel
theorem dL_law_844 : decode cL_law 844 = .ok (.ifCond .eq 469, 3) := by decide +kernel
theorem dL_law_847 : decode cL_law 847 = .ok (.iconst 0, 1) := by decide +kernel
theorem dL_law_848 : decode cL_law 848 = .ok (.ireturn, 1) := by decide +kernel
theorem dL_law_849 : decode cL_law 849 = .ok (.aload_n 1, 1) := by decide +kernel
theorem dL_law_850 : decode cL_law 850 = .ok (.aload_n 0, 1) := by decide +kernel
theorem dL_law_851 : decode cL_law 851 = .ok (.iload_n 3, 1) := by decide +kernel
theorem dL_law_852 : decode cL_law 852 = .ok (.iconst 1, 1) := by decide +kernel
theorem dL_law_853 : decode cL_law 853 = .ok (.iadd, 1) := by decide +kernel
theorem dL_law_854 : decode cL_law 854 = .ok (.iaload, 1) := by decide +kernel
theorem dL_law_855 : decode cL_law 855 = .ok (.aload_n 0, 1) := by decide +kernel
theorem dL_law_856 : decode cL_law 856 = .ok (.iload_n 3, 1) := by decide +kernel
theorem dL_law_857 : decode cL_law 857 = .ok (.iconst 2, 1) := by decide +kernel
theorem dL_law_858 : decode cL_law 858 = .ok (.iadd, 1) := by decide +kernel
theorem dL_law_859 : decode cL_law 859 = .ok (.iaload, 1) := by decide +kernel
theorem dL_law_860 : decode cL_law 860 = .ok (.invokevirtual 107, 3) := by decide +kernel
theorem dL_law_863 : decode cL_law 863 = .ok (.aload_n 2, 1) := by decide +kernel
theorem dL_law_864 : decode cL_law 864 = .ok (.aload_n 0, 1) := by decide +kernel
theorem dL_law_865 : decode cL_law 865 = .ok (.iload_n 3, 1) := by decide +kernel
theorem dL_law_866 : decode cL_law 866 = .ok (.iconst 1, 1) := by decide +kernel
theorem dL_law_867 : decode cL_law 867 = .ok (.iadd, 1) := by decide +kernel
theorem dL_law_868 : decode cL_law 868 = .ok (.iaload, 1) := by decide +kernel
theorem dL_law_869 : decode cL_law 869 = .ok (.aload_n 0, 1) := by decide +kernel
theorem dL_law_870 : decode cL_law 870 = .ok (.iload_n 3, 1) := by decide +kernel
theorem dL_law_871 : decode cL_law 871 = .ok (.iconst 2, 1) := by decide +kernel
theorem dL_law_872 : decode cL_law 872 = .ok (.iadd, 1) := by decide +kernel
theorem dL_law_873 : decode cL_law 873 = .ok (.iaload, 1) := by decide +kernel
theorem dL_law_874 : decode cL_law 874 = .ok (.invokevirtual 110, 3) := by decide +kernel
theorem dL_law_877 : decode cL_law 877 = .ok (.lcmp, 1) := by decide +kernel
theorem dL_law_878 : decode cL_law 878 = .ok (.ifCond .eq 435, 3) := by decide +kernel
theorem dL_law_881 : decode cL_law 881 = .ok (.iconst 0, 1) := by decide +kernel
theorem dL_law_882 : decode cL_law 882 = .ok (.ireturn, 1) := by decide +kernel
theorem dL_law_883 : decode cL_law 883 = .ok (.aload_n 1, 1) := by decide +kernel
theorem dL_law_884 : decode cL_law 884 = .ok (.aload_n 0, 1) := by decide +kernel
theorem dL_law_885 : decode cL_law 885 = .ok (.iload_n 3, 1) := by decide +kernel
theorem dL_law_886 : decode cL_law 886 = .ok (.iconst 1, 1) := by decide +kernel
theorem dL_law_887 : decode cL_law 887 = .ok (.iadd, 1) := by decide +kernel
theorem dL_law_888 : decode cL_law 888 = .ok (.iaload, 1) := by decide +kernel
theorem dL_law_889 : decode cL_law 889 = .ok (.invokevirtual 111, 3) := by decide +kernel
theorem dL_law_892 : decode cL_law 892 = .ok (.aload_n 2, 1) := by decide +kernel
theorem dL_law_893 : decode cL_law 893 = .ok (.aload_n 0, 1) := by decide +kernel
theorem dL_law_894 : decode cL_law 894 = .ok (.iload_n 3, 1) := by decide +kernel
theorem dL_law_895 : decode cL_law 895 = .ok (.iconst 1, 1) := by decide +kernel
theorem dL_law_896 : decode cL_law 896 = .ok (.iadd, 1) := by decide +kernel
theorem dL_law_897 : decode cL_law 897 = .ok (.iaload, 1) := by decide +kernel
theorem dL_law_898 : decode cL_law 898 = .ok (.invokevirtual 114, 3) := by decide +kernel
theorem dL_law_901 : decode cL_law 901 = .ok (.if_icmp .eq 412, 3) := by decide +kernel
theorem dL_law_904 : decode cL_law 904 = .ok (.iconst 0, 1) := by decide +kernel
theorem dL_law_905 : decode cL_law 905 = .ok (.ireturn, 1) := by decide +kernel
theorem dL_law_906 : decode cL_law 906 = .ok (.aload_n 1, 1) := by decide +kernel
theorem dL_law_907 : decode cL_law 907 = .ok (.invokevirtual 115, 3) := by decide +kernel
theorem dL_law_910 : decode cL_law 910 = .ok (.aload_n 2, 1) := by decide +kernel
theorem dL_law_911 : decode cL_law 911 = .ok (.invokevirtual 118, 3) := by decide +kernel
theorem dL_law_914 : decode cL_law 914 = .ok (.if_icmp .eq 399, 3) := by decide +kernel
theorem dL_law_917 : decode cL_law 917 = .ok (.iconst 0, 1) := by decide +kernel
theorem dL_law_918 : decode cL_law 918 = .ok (.ireturn, 1) := by decide +kernel
theorem dL_law_919 : decode cL_law 919 = .ok (.aload_n 1, 1) := by decide +kernel
theorem dL_law_920 : decode cL_law 920 = .ok (.aload_n 0, 1) := by decide +kernel
theorem dL_law_921 : decode cL_law 921 = .ok (.iload_n 3, 1) := by decide +kernel
theorem dL_law_922 : decode cL_law 922 = .ok (.iconst 1, 1) := by decide +kernel
theorem dL_law_923 : decode cL_law 923 = .ok (.iadd, 1) := by decide +kernel
theorem dL_law_924 : decode cL_law 924 = .ok (.iaload, 1) := by decide +kernel
theorem dL_law_925 : decode cL_law 925 = .ok (.aload_n 0, 1) := by decide +kernel
theorem dL_law_926 : decode cL_law 926 = .ok (.iload_n 3, 1) := by decide +kernel
theorem dL_law_927 : decode cL_law 927 = .ok (.iconst 2, 1) := by decide +kernel
theorem dL_law_928 : decode cL_law 928 = .ok (.iadd, 1) := by decide +kernel
theorem dL_law_929 : decode cL_law 929 = .ok (.iaload, 1) := by decide +kernel
theorem dL_law_930 : decode cL_law 930 = .ok (.invokevirtual 119, 3) := by decide +kernel
theorem dL_law_933 : decode cL_law 933 = .ok (.aload_n 2, 1) := by decide +kernel
theorem dL_law_934 : decode cL_law 934 = .ok (.aload_n 0, 1) := by decide +kernel
theorem dL_law_935 : decode cL_law 935 = .ok (.iload_n 3, 1) := by decide +kernel
theorem dL_law_936 : decode cL_law 936 = .ok (.iconst 1, 1) := by decide +kernel
theorem dL_law_937 : decode cL_law 937 = .ok (.iadd, 1) := by decide +kernel
theorem dL_law_938 : decode cL_law 938 = .ok (.iaload, 1) := by decide +kernel
theorem dL_law_939 : decode cL_law 939 = .ok (.aload_n 0, 1) := by decide +kernel
theorem dL_law_940 : decode cL_law 940 = .ok (.iload_n 3, 1) := by decide +kernel
theorem dL_law_941 : decode cL_law 941 = .ok (.iconst 2, 1) := by decide +kernel
theorem dL_law_942 : decode cL_law 942 = .ok (.iadd, 1) := by decide +kernel
theorem dL_law_943 : decode cL_law 943 = .ok (.iaload, 1) := by decide +kernel
theorem dL_law_944 : decode cL_law 944 = .ok (.invokevirtual 122, 3) := by decide +kernel
theorem dL_law_947 : decode cL_law 947 = .ok (.if_icmp .eq 366, 3) := by decide +kernel
theorem dL_law_950 : decode cL_law 950 = .ok (.iconst 0, 1) := by decide +kernel
theorem dL_law_951 : decode cL_law 951 = .ok (.ireturn, 1) := by decide +kernel
theorem dL_law_952 : decode cL_law 952 = .ok (.aload_n 1, 1) := by decide +kernel
theorem dL_law_953 : decode cL_law 953 = .ok (.invokevirtual 123, 3) := by decide +kernel
theorem dL_law_956 : decode cL_law 956 = .ok (.aload_n 2, 1) := by decide +kernel
theorem dL_law_957 : decode cL_law 957 = .ok (.invokevirtual 126, 3) := by decide +kernel
theorem dL_law_960 : decode cL_law 960 = .ok (.if_icmp .eq 353, 3) := by decide +kernel
theorem dL_law_963 : decode cL_law 963 = .ok (.iconst 0, 1) := by decide +kernel
theorem dL_law_964 : decode cL_law 964 = .ok (.ireturn, 1) := by decide +kernel
theorem dL_law_965 : decode cL_law 965 = .ok (.aload_n 1, 1) := by decide +kernel
theorem dL_law_966 : decode cL_law 966 = .ok (.invokevirtual 127, 3) := by decide +kernel
theorem dL_law_969 : decode cL_law 969 = .ok (.aload_n 2, 1) := by decide +kernel
theorem dL_law_970 : decode cL_law 970 = .ok (.invokevirtual 130, 3) := by decide +kernel
theorem dL_law_973 : decode cL_law 973 = .ok (.if_icmp .eq 340, 3) := by decide +kernel
theorem dL_law_976 : decode cL_law 976 = .ok (.iconst 0, 1) := by decide +kernel
theorem dL_law_977 : decode cL_law 977 = .ok (.ireturn, 1) := by decide +kernel
theorem dL_law_978 : decode cL_law 978 = .ok (.aload_n 1, 1) := by decide +kernel
theorem dL_law_979 : decode cL_law 979 = .ok (.aload_n 0, 1) := by decide +kernel
theorem dL_law_980 : decode cL_law 980 = .ok (.iload_n 3, 1) := by decide +kernel
theorem dL_law_981 : decode cL_law 981 = .ok (.iconst 1, 1) := by decide +kernel
theorem dL_law_982 : decode cL_law 982 = .ok (.iadd, 1) := by decide +kernel
theorem dL_law_983 : decode cL_law 983 = .ok (.iaload, 1) := by decide +kernel
theorem dL_law_984 : decode cL_law 984 = .ok (.aload_n 0, 1) := by decide +kernel
theorem dL_law_985 : decode cL_law 985 = .ok (.iload_n 3, 1) := by decide +kernel
theorem dL_law_986 : decode cL_law 986 = .ok (.iconst 2, 1) := by decide +kernel
theorem dL_law_987 : decode cL_law 987 = .ok (.iadd, 1) := by decide +kernel
theorem dL_law_988 : decode cL_law 988 = .ok (.iaload, 1) := by decide +kernel
theorem dL_law_989 : decode cL_law 989 = .ok (.aload_n 0, 1) := by decide +kernel
theorem dL_law_990 : decode cL_law 990 = .ok (.iload_n 3, 1) := by decide +kernel
theorem dL_law_991 : decode cL_law 991 = .ok (.iconst 3, 1) := by decide +kernel
theorem dL_law_992 : decode cL_law 992 = .ok (.iadd, 1) := by decide +kernel
theorem dL_law_993 : decode cL_law 993 = .ok (.iaload, 1) := by decide +kernel
theorem dL_law_994 : decode cL_law 994 = .ok (.invokevirtual 131, 3) := by decide +kernel
theorem dL_law_997 : decode cL_law 997 = .ok (.aload_n 2, 1) := by decide +kernel
theorem dL_law_998 : decode cL_law 998 = .ok (.aload_n 0, 1) := by decide +kernel
theorem dL_law_999 : decode cL_law 999 = .ok (.iload_n 3, 1) := by decide +kernel
theorem dL_law_1000 : decode cL_law 1000 = .ok (.iconst 1, 1) := by decide +kernel
theorem dL_law_1001 : decode cL_law 1001 = .ok (.iadd, 1) := by decide +kernel
theorem dL_law_1002 : decode cL_law 1002 = .ok (.iaload, 1) := by decide +kernel
theorem dL_law_1003 : decode cL_law 1003 = .ok (.aload_n 0, 1) := by decide +kernel
theorem dL_law_1004 : decode cL_law 1004 = .ok (.iload_n 3, 1) := by decide +kernel
theorem dL_law_1005 : decode cL_law 1005 = .ok (.iconst 2, 1) := by decide +kernel
theorem dL_law_1006 : decode cL_law 1006 = .ok (.iadd, 1) := by decide +kernel
theorem dL_law_1007 : decode cL_law 1007 = .ok (.iaload, 1) := by decide +kernel
theorem dL_law_1008 : decode cL_law 1008 = .ok (.aload_n 0, 1) := by decide +kernel
theorem dL_law_1009 : decode cL_law 1009 = .ok (.iload_n 3, 1) := by decide +kernel
theorem dL_law_1010 : decode cL_law 1010 = .ok (.iconst 3, 1) := by decide +kernel
theorem dL_law_1011 : decode cL_law 1011 = .ok (.iadd, 1) := by decide +kernel
theorem dL_law_1012 : decode cL_law 1012 = .ok (.iaload, 1) := by decide +kernel
theorem dL_law_1013 : decode cL_law 1013 = .ok (.invokevirtual 134, 3) := by decide +kernel
theorem dL_law_1016 : decode cL_law 1016 = .ok (.if_icmp .eq 297, 3) := by decide +kernel
theorem dL_law_1019 : decode cL_law 1019 = .ok (.iconst 0, 1) := by decide +kernel
theorem dL_law_1020 : decode cL_law 1020 = .ok (.ireturn, 1) := by decide +kernel
theorem dL_law_1021 : decode cL_law 1021 = .ok (.aload_n 1, 1) := by decide +kernel
theorem dL_law_1022 : decode cL_law 1022 = .ok (.aload_n 0, 1) := by decide +kernel
theorem dL_law_1023 : decode cL_law 1023 = .ok (.iload_n 3, 1) := by decide +kernel
theorem dL_law_1024 : decode cL_law 1024 = .ok (.iconst 1, 1) := by decide +kernel
theorem dL_law_1025 : decode cL_law 1025 = .ok (.iadd, 1) := by decide +kernel
theorem dL_law_1026 : decode cL_law 1026 = .ok (.iaload, 1) := by decide +kernel
theorem dL_law_1027 : decode cL_law 1027 = .ok (.invokevirtual 135, 3) := by decide +kernel
theorem dL_law_1030 : decode cL_law 1030 = .ok (.aload_n 2, 1) := by decide +kernel
theorem dL_law_1031 : decode cL_law 1031 = .ok (.aload_n 0, 1) := by decide +kernel
theorem dL_law_1032 : decode cL_law 1032 = .ok (.iload_n 3, 1) := by decide +kernel
theorem dL_law_1033 : decode cL_law 1033 = .ok (.iconst 1, 1) := by decide +kernel
theorem dL_law_1034 : decode cL_law 1034 = .ok (.iadd, 1) := by decide +kernel
theorem dL_law_1035 : decode cL_law 1035 = .ok (.iaload, 1) := by decide +kernel
theorem dL_law_1036 : decode cL_law 1036 = .ok (.invokevirtual 138, 3) := by decide +kernel
theorem dL_law_1039 : decode cL_law 1039 = .ok (.if_icmp .eq 274, 3) := by decide +kernel
theorem dL_law_1042 : decode cL_law 1042 = .ok (.iconst 0, 1) := by decide +kernel
theorem dL_law_1043 : decode cL_law 1043 = .ok (.ireturn, 1) := by decide +kernel
theorem dL_law_1044 : decode cL_law 1044 = .ok (.aload_n 1, 1) := by decide +kernel
theorem dL_law_1045 : decode cL_law 1045 = .ok (.aload_n 0, 1) := by decide +kernel
theorem dL_law_1046 : decode cL_law 1046 = .ok (.iload_n 3, 1) := by decide +kernel
theorem dL_law_1047 : decode cL_law 1047 = .ok (.iconst 1, 1) := by decide +kernel
theorem dL_law_1048 : decode cL_law 1048 = .ok (.iadd, 1) := by decide +kernel
theorem dL_law_1049 : decode cL_law 1049 = .ok (.iaload, 1) := by decide +kernel
theorem dL_law_1050 : decode cL_law 1050 = .ok (.aload_n 0, 1) := by decide +kernel
theorem dL_law_1051 : decode cL_law 1051 = .ok (.iload_n 3, 1) := by decide +kernel
theorem dL_law_1052 : decode cL_law 1052 = .ok (.iconst 2, 1) := by decide +kernel
theorem dL_law_1053 : decode cL_law 1053 = .ok (.iadd, 1) := by decide +kernel
theorem dL_law_1054 : decode cL_law 1054 = .ok (.iaload, 1) := by decide +kernel
theorem dL_law_1055 : decode cL_law 1055 = .ok (.invokevirtual 139, 3) := by decide +kernel
theorem dL_law_1058 : decode cL_law 1058 = .ok (.aload_n 2, 1) := by decide +kernel
theorem dL_law_1059 : decode cL_law 1059 = .ok (.aload_n 0, 1) := by decide +kernel
theorem dL_law_1060 : decode cL_law 1060 = .ok (.iload_n 3, 1) := by decide +kernel
theorem dL_law_1061 : decode cL_law 1061 = .ok (.iconst 1, 1) := by decide +kernel
theorem dL_law_1062 : decode cL_law 1062 = .ok (.iadd, 1) := by decide +kernel
theorem dL_law_1063 : decode cL_law 1063 = .ok (.iaload, 1) := by decide +kernel
theorem dL_law_1064 : decode cL_law 1064 = .ok (.aload_n 0, 1) := by decide +kernel
theorem dL_law_1065 : decode cL_law 1065 = .ok (.iload_n 3, 1) := by decide +kernel
theorem dL_law_1066 : decode cL_law 1066 = .ok (.iconst 2, 1) := by decide +kernel
theorem dL_law_1067 : decode cL_law 1067 = .ok (.iadd, 1) := by decide +kernel
theorem dL_law_1068 : decode cL_law 1068 = .ok (.iaload, 1) := by decide +kernel
theorem dL_law_1069 : decode cL_law 1069 = .ok (.invokevirtual 142, 3) := by decide +kernel
theorem dL_law_1072 : decode cL_law 1072 = .ok (.if_icmp .eq 241, 3) := by decide +kernel
theorem dL_law_1075 : decode cL_law 1075 = .ok (.iconst 0, 1) := by decide +kernel
theorem dL_law_1076 : decode cL_law 1076 = .ok (.ireturn, 1) := by decide +kernel
theorem dL_law_1077 : decode cL_law 1077 = .ok (.aload_n 1, 1) := by decide +kernel
theorem dL_law_1078 : decode cL_law 1078 = .ok (.aload_n 0, 1) := by decide +kernel
theorem dL_law_1079 : decode cL_law 1079 = .ok (.iload_n 3, 1) := by decide +kernel
theorem dL_law_1080 : decode cL_law 1080 = .ok (.iconst 1, 1) := by decide +kernel
theorem dL_law_1081 : decode cL_law 1081 = .ok (.iadd, 1) := by decide +kernel
theorem dL_law_1082 : decode cL_law 1082 = .ok (.iaload, 1) := by decide +kernel
theorem dL_law_1083 : decode cL_law 1083 = .ok (.invokevirtual 143, 3) := by decide +kernel
theorem dL_law_1086 : decode cL_law 1086 = .ok (.aload_n 2, 1) := by decide +kernel
theorem dL_law_1087 : decode cL_law 1087 = .ok (.aload_n 0, 1) := by decide +kernel
theorem dL_law_1088 : decode cL_law 1088 = .ok (.iload_n 3, 1) := by decide +kernel
theorem dL_law_1089 : decode cL_law 1089 = .ok (.iconst 1, 1) := by decide +kernel
theorem dL_law_1090 : decode cL_law 1090 = .ok (.iadd, 1) := by decide +kernel
theorem dL_law_1091 : decode cL_law 1091 = .ok (.iaload, 1) := by decide +kernel
theorem dL_law_1092 : decode cL_law 1092 = .ok (.invokevirtual 146, 3) := by decide +kernel
theorem dL_law_1095 : decode cL_law 1095 = .ok (.if_icmp .eq 218, 3) := by decide +kernel
theorem dL_law_1098 : decode cL_law 1098 = .ok (.iconst 0, 1) := by decide +kernel
theorem dL_law_1099 : decode cL_law 1099 = .ok (.ireturn, 1) := by decide +kernel
theorem dL_law_1100 : decode cL_law 1100 = .ok (.aload_n 1, 1) := by decide +kernel
theorem dL_law_1101 : decode cL_law 1101 = .ok (.aload_n 0, 1) := by decide +kernel
theorem dL_law_1102 : decode cL_law 1102 = .ok (.iload_n 3, 1) := by decide +kernel
theorem dL_law_1103 : decode cL_law 1103 = .ok (.iconst 1, 1) := by decide +kernel
theorem dL_law_1104 : decode cL_law 1104 = .ok (.iadd, 1) := by decide +kernel
theorem dL_law_1105 : decode cL_law 1105 = .ok (.iaload, 1) := by decide +kernel
theorem dL_law_1106 : decode cL_law 1106 = .ok (.aload_n 0, 1) := by decide +kernel
theorem dL_law_1107 : decode cL_law 1107 = .ok (.iload_n 3, 1) := by decide +kernel
theorem dL_law_1108 : decode cL_law 1108 = .ok (.iconst 2, 1) := by decide +kernel
theorem dL_law_1109 : decode cL_law 1109 = .ok (.iadd, 1) := by decide +kernel
theorem dL_law_1110 : decode cL_law 1110 = .ok (.iaload, 1) := by decide +kernel
theorem dL_law_1111 : decode cL_law 1111 = .ok (.aload_n 0, 1) := by decide +kernel
theorem dL_law_1112 : decode cL_law 1112 = .ok (.iload_n 3, 1) := by decide +kernel
theorem dL_law_1113 : decode cL_law 1113 = .ok (.iconst 3, 1) := by decide +kernel
theorem dL_law_1114 : decode cL_law 1114 = .ok (.iadd, 1) := by decide +kernel
theorem dL_law_1115 : decode cL_law 1115 = .ok (.iaload, 1) := by decide +kernel
theorem dL_law_1116 : decode cL_law 1116 = .ok (.invokevirtual 147, 3) := by decide +kernel
theorem dL_law_1119 : decode cL_law 1119 = .ok (.aload_n 2, 1) := by decide +kernel
theorem dL_law_1120 : decode cL_law 1120 = .ok (.aload_n 0, 1) := by decide +kernel
theorem dL_law_1121 : decode cL_law 1121 = .ok (.iload_n 3, 1) := by decide +kernel
theorem dL_law_1122 : decode cL_law 1122 = .ok (.iconst 1, 1) := by decide +kernel
theorem dL_law_1123 : decode cL_law 1123 = .ok (.iadd, 1) := by decide +kernel
theorem dL_law_1124 : decode cL_law 1124 = .ok (.iaload, 1) := by decide +kernel
theorem dL_law_1125 : decode cL_law 1125 = .ok (.aload_n 0, 1) := by decide +kernel
theorem dL_law_1126 : decode cL_law 1126 = .ok (.iload_n 3, 1) := by decide +kernel
theorem dL_law_1127 : decode cL_law 1127 = .ok (.iconst 2, 1) := by decide +kernel
theorem dL_law_1128 : decode cL_law 1128 = .ok (.iadd, 1) := by decide +kernel
theorem dL_law_1129 : decode cL_law 1129 = .ok (.iaload, 1) := by decide +kernel
theorem dL_law_1130 : decode cL_law 1130 = .ok (.aload_n 0, 1) := by decide +kernel
theorem dL_law_1131 : decode cL_law 1131 = .ok (.iload_n 3, 1) := by decide +kernel
theorem dL_law_1132 : decode cL_law 1132 = .ok (.iconst 3, 1) := by decide +kernel
theorem dL_law_1133 : decode cL_law 1133 = .ok (.iadd, 1) := by decide +kernel
theorem dL_law_1134 : decode cL_law 1134 = .ok (.iaload, 1) := by decide +kernel
theorem dL_law_1135 : decode cL_law 1135 = .ok (.invokevirtual 150, 3) := by decide +kernel
theorem dL_law_1138 : decode cL_law 1138 = .ok (.if_icmp .eq 175, 3) := by decide +kernel
theorem dL_law_1141 : decode cL_law 1141 = .ok (.iconst 0, 1) := by decide +kernel
theorem dL_law_1142 : decode cL_law 1142 = .ok (.ireturn, 1) := by decide +kernel
theorem dL_law_1143 : decode cL_law 1143 = .ok (.aload_n 1, 1) := by decide +kernel
theorem dL_law_1144 : decode cL_law 1144 = .ok (.aload_n 0, 1) := by decide +kernel
theorem dL_law_1145 : decode cL_law 1145 = .ok (.iload_n 3, 1) := by decide +kernel
theorem dL_law_1146 : decode cL_law 1146 = .ok (.iconst 1, 1) := by decide +kernel
theorem dL_law_1147 : decode cL_law 1147 = .ok (.iadd, 1) := by decide +kernel
theorem dL_law_1148 : decode cL_law 1148 = .ok (.iaload, 1) := by decide +kernel
theorem dL_law_1149 : decode cL_law 1149 = .ok (.aload_n 0, 1) := by decide +kernel
theorem dL_law_1150 : decode cL_law 1150 = .ok (.iload_n 3, 1) := by decide +kernel
theorem dL_law_1151 : decode cL_law 1151 = .ok (.iconst 2, 1) := by decide +kernel
theorem dL_law_1152 : decode cL_law 1152 = .ok (.iadd, 1) := by decide +kernel
theorem dL_law_1153 : decode cL_law 1153 = .ok (.iaload, 1) := by decide +kernel
theorem dL_law_1154 : decode cL_law 1154 = .ok (.aload_n 0, 1) := by decide +kernel
theorem dL_law_1155 : decode cL_law 1155 = .ok (.iload_n 3, 1) := by decide +kernel
theorem dL_law_1156 : decode cL_law 1156 = .ok (.iconst 3, 1) := by decide +kernel
theorem dL_law_1157 : decode cL_law 1157 = .ok (.iadd, 1) := by decide +kernel
theorem dL_law_1158 : decode cL_law 1158 = .ok (.iaload, 1) := by decide +kernel
theorem dL_law_1159 : decode cL_law 1159 = .ok (.i2l, 1) := by decide +kernel
theorem dL_law_1160 : decode cL_law 1160 = .ok (.bipush 32, 2) := by decide +kernel
theorem dL_law_1162 : decode cL_law 1162 = .ok (.lshl, 1) := by decide +kernel
theorem dL_law_1163 : decode cL_law 1163 = .ok (.aload_n 0, 1) := by decide +kernel
theorem dL_law_1164 : decode cL_law 1164 = .ok (.iload_n 3, 1) := by decide +kernel
theorem dL_law_1165 : decode cL_law 1165 = .ok (.iconst 4, 1) := by decide +kernel
theorem dL_law_1166 : decode cL_law 1166 = .ok (.iadd, 1) := by decide +kernel
theorem dL_law_1167 : decode cL_law 1167 = .ok (.iaload, 1) := by decide +kernel
theorem dL_law_1168 : decode cL_law 1168 = .ok (.i2l, 1) := by decide +kernel
theorem dL_law_1169 : decode cL_law 1169 = .ok (.ldc2_w 151, 3) := by decide +kernel
theorem dL_law_1172 : decode cL_law 1172 = .ok (.land, 1) := by decide +kernel
theorem dL_law_1173 : decode cL_law 1173 = .ok (.lor, 1) := by decide +kernel
theorem dL_law_1174 : decode cL_law 1174 = .ok (.invokevirtual 153, 3) := by decide +kernel
theorem dL_law_1177 : decode cL_law 1177 = .ok (.aload_n 2, 1) := by decide +kernel
theorem dL_law_1178 : decode cL_law 1178 = .ok (.aload_n 0, 1) := by decide +kernel
theorem dL_law_1179 : decode cL_law 1179 = .ok (.iload_n 3, 1) := by decide +kernel
theorem dL_law_1180 : decode cL_law 1180 = .ok (.iconst 1, 1) := by decide +kernel
theorem dL_law_1181 : decode cL_law 1181 = .ok (.iadd, 1) := by decide +kernel
theorem dL_law_1182 : decode cL_law 1182 = .ok (.iaload, 1) := by decide +kernel
theorem dL_law_1183 : decode cL_law 1183 = .ok (.aload_n 0, 1) := by decide +kernel
theorem dL_law_1184 : decode cL_law 1184 = .ok (.iload_n 3, 1) := by decide +kernel
theorem dL_law_1185 : decode cL_law 1185 = .ok (.iconst 2, 1) := by decide +kernel
theorem dL_law_1186 : decode cL_law 1186 = .ok (.iadd, 1) := by decide +kernel
theorem dL_law_1187 : decode cL_law 1187 = .ok (.iaload, 1) := by decide +kernel
theorem dL_law_1188 : decode cL_law 1188 = .ok (.aload_n 0, 1) := by decide +kernel
theorem dL_law_1189 : decode cL_law 1189 = .ok (.iload_n 3, 1) := by decide +kernel
theorem dL_law_1190 : decode cL_law 1190 = .ok (.iconst 3, 1) := by decide +kernel
theorem dL_law_1191 : decode cL_law 1191 = .ok (.iadd, 1) := by decide +kernel
theorem dL_law_1192 : decode cL_law 1192 = .ok (.iaload, 1) := by decide +kernel
theorem dL_law_1193 : decode cL_law 1193 = .ok (.i2l, 1) := by decide +kernel
theorem dL_law_1194 : decode cL_law 1194 = .ok (.bipush 32, 2) := by decide +kernel
theorem dL_law_1196 : decode cL_law 1196 = .ok (.lshl, 1) := by decide +kernel
theorem dL_law_1197 : decode cL_law 1197 = .ok (.aload_n 0, 1) := by decide +kernel
theorem dL_law_1198 : decode cL_law 1198 = .ok (.iload_n 3, 1) := by decide +kernel
theorem dL_law_1199 : decode cL_law 1199 = .ok (.iconst 4, 1) := by decide +kernel
theorem dL_law_1200 : decode cL_law 1200 = .ok (.iadd, 1) := by decide +kernel
theorem dL_law_1201 : decode cL_law 1201 = .ok (.iaload, 1) := by decide +kernel
theorem dL_law_1202 : decode cL_law 1202 = .ok (.i2l, 1) := by decide +kernel
theorem dL_law_1203 : decode cL_law 1203 = .ok (.ldc2_w 151, 3) := by decide +kernel
theorem dL_law_1206 : decode cL_law 1206 = .ok (.land, 1) := by decide +kernel
theorem dL_law_1207 : decode cL_law 1207 = .ok (.lor, 1) := by decide +kernel
theorem dL_law_1208 : decode cL_law 1208 = .ok (.invokevirtual 157, 3) := by decide +kernel
theorem dL_law_1211 : decode cL_law 1211 = .ok (.if_icmp .eq 102, 3) := by decide +kernel
theorem dL_law_1214 : decode cL_law 1214 = .ok (.iconst 0, 1) := by decide +kernel
theorem dL_law_1215 : decode cL_law 1215 = .ok (.ireturn, 1) := by decide +kernel
theorem dL_law_1216 : decode cL_law 1216 = .ok (.aload_n 1, 1) := by decide +kernel
theorem dL_law_1217 : decode cL_law 1217 = .ok (.aload_n 0, 1) := by decide +kernel
theorem dL_law_1218 : decode cL_law 1218 = .ok (.iload_n 3, 1) := by decide +kernel
theorem dL_law_1219 : decode cL_law 1219 = .ok (.iconst 1, 1) := by decide +kernel
theorem dL_law_1220 : decode cL_law 1220 = .ok (.iadd, 1) := by decide +kernel
theorem dL_law_1221 : decode cL_law 1221 = .ok (.iaload, 1) := by decide +kernel
theorem dL_law_1222 : decode cL_law 1222 = .ok (.aload_n 0, 1) := by decide +kernel
theorem dL_law_1223 : decode cL_law 1223 = .ok (.iload_n 3, 1) := by decide +kernel
theorem dL_law_1224 : decode cL_law 1224 = .ok (.iconst 2, 1) := by decide +kernel
theorem dL_law_1225 : decode cL_law 1225 = .ok (.iadd, 1) := by decide +kernel
theorem dL_law_1226 : decode cL_law 1226 = .ok (.iaload, 1) := by decide +kernel
theorem dL_law_1227 : decode cL_law 1227 = .ok (.invokevirtual 158, 3) := by decide +kernel
theorem dL_law_1230 : decode cL_law 1230 = .ok (.aload_n 2, 1) := by decide +kernel
theorem dL_law_1231 : decode cL_law 1231 = .ok (.aload_n 0, 1) := by decide +kernel
theorem dL_law_1232 : decode cL_law 1232 = .ok (.iload_n 3, 1) := by decide +kernel
theorem dL_law_1233 : decode cL_law 1233 = .ok (.iconst 1, 1) := by decide +kernel
theorem dL_law_1234 : decode cL_law 1234 = .ok (.iadd, 1) := by decide +kernel
theorem dL_law_1235 : decode cL_law 1235 = .ok (.iaload, 1) := by decide +kernel
theorem dL_law_1236 : decode cL_law 1236 = .ok (.aload_n 0, 1) := by decide +kernel
theorem dL_law_1237 : decode cL_law 1237 = .ok (.iload_n 3, 1) := by decide +kernel
theorem dL_law_1238 : decode cL_law 1238 = .ok (.iconst 2, 1) := by decide +kernel
theorem dL_law_1239 : decode cL_law 1239 = .ok (.iadd, 1) := by decide +kernel
theorem dL_law_1240 : decode cL_law 1240 = .ok (.iaload, 1) := by decide +kernel
theorem dL_law_1241 : decode cL_law 1241 = .ok (.invokevirtual 161, 3) := by decide +kernel
theorem dL_law_1244 : decode cL_law 1244 = .ok (.lcmp, 1) := by decide +kernel
theorem dL_law_1245 : decode cL_law 1245 = .ok (.ifCond .eq 68, 3) := by decide +kernel
theorem dL_law_1248 : decode cL_law 1248 = .ok (.iconst 0, 1) := by decide +kernel
theorem dL_law_1249 : decode cL_law 1249 = .ok (.ireturn, 1) := by decide +kernel
theorem dL_law_1250 : decode cL_law 1250 = .ok (.aload_n 1, 1) := by decide +kernel
theorem dL_law_1251 : decode cL_law 1251 = .ok (.aload_n 0, 1) := by decide +kernel
theorem dL_law_1252 : decode cL_law 1252 = .ok (.iload_n 3, 1) := by decide +kernel
theorem dL_law_1253 : decode cL_law 1253 = .ok (.iconst 1, 1) := by decide +kernel
theorem dL_law_1254 : decode cL_law 1254 = .ok (.iadd, 1) := by decide +kernel
theorem dL_law_1255 : decode cL_law 1255 = .ok (.iaload, 1) := by decide +kernel
theorem dL_law_1256 : decode cL_law 1256 = .ok (.aload_n 0, 1) := by decide +kernel
theorem dL_law_1257 : decode cL_law 1257 = .ok (.iload_n 3, 1) := by decide +kernel
theorem dL_law_1258 : decode cL_law 1258 = .ok (.iconst 2, 1) := by decide +kernel
theorem dL_law_1259 : decode cL_law 1259 = .ok (.iadd, 1) := by decide +kernel
theorem dL_law_1260 : decode cL_law 1260 = .ok (.iaload, 1) := by decide +kernel
theorem dL_law_1261 : decode cL_law 1261 = .ok (.aload_n 0, 1) := by decide +kernel
theorem dL_law_1262 : decode cL_law 1262 = .ok (.iload_n 3, 1) := by decide +kernel
theorem dL_law_1263 : decode cL_law 1263 = .ok (.iconst 3, 1) := by decide +kernel
theorem dL_law_1264 : decode cL_law 1264 = .ok (.iadd, 1) := by decide +kernel
theorem dL_law_1265 : decode cL_law 1265 = .ok (.iaload, 1) := by decide +kernel
theorem dL_law_1266 : decode cL_law 1266 = .ok (.aload_n 0, 1) := by decide +kernel
theorem dL_law_1267 : decode cL_law 1267 = .ok (.iload_n 3, 1) := by decide +kernel
theorem dL_law_1268 : decode cL_law 1268 = .ok (.iconst 4, 1) := by decide +kernel
theorem dL_law_1269 : decode cL_law 1269 = .ok (.iadd, 1) := by decide +kernel
theorem dL_law_1270 : decode cL_law 1270 = .ok (.iaload, 1) := by decide +kernel
theorem dL_law_1271 : decode cL_law 1271 = .ok (.aload_n 0, 1) := by decide +kernel
theorem dL_law_1272 : decode cL_law 1272 = .ok (.iload_n 3, 1) := by decide +kernel
theorem dL_law_1273 : decode cL_law 1273 = .ok (.iconst 5, 1) := by decide +kernel
theorem dL_law_1274 : decode cL_law 1274 = .ok (.iadd, 1) := by decide +kernel
theorem dL_law_1275 : decode cL_law 1275 = .ok (.iaload, 1) := by decide +kernel
theorem dL_law_1276 : decode cL_law 1276 = .ok (.invokevirtual 162, 3) := by decide +kernel
theorem dL_law_1279 : decode cL_law 1279 = .ok (.aload_n 2, 1) := by decide +kernel
theorem dL_law_1280 : decode cL_law 1280 = .ok (.aload_n 0, 1) := by decide +kernel
theorem dL_law_1281 : decode cL_law 1281 = .ok (.iload_n 3, 1) := by decide +kernel
theorem dL_law_1282 : decode cL_law 1282 = .ok (.iconst 1, 1) := by decide +kernel
theorem dL_law_1283 : decode cL_law 1283 = .ok (.iadd, 1) := by decide +kernel
theorem dL_law_1284 : decode cL_law 1284 = .ok (.iaload, 1) := by decide +kernel
theorem dL_law_1285 : decode cL_law 1285 = .ok (.aload_n 0, 1) := by decide +kernel
theorem dL_law_1286 : decode cL_law 1286 = .ok (.iload_n 3, 1) := by decide +kernel
theorem dL_law_1287 : decode cL_law 1287 = .ok (.iconst 2, 1) := by decide +kernel
theorem dL_law_1288 : decode cL_law 1288 = .ok (.iadd, 1) := by decide +kernel
theorem dL_law_1289 : decode cL_law 1289 = .ok (.iaload, 1) := by decide +kernel
theorem dL_law_1290 : decode cL_law 1290 = .ok (.aload_n 0, 1) := by decide +kernel
theorem dL_law_1291 : decode cL_law 1291 = .ok (.iload_n 3, 1) := by decide +kernel
theorem dL_law_1292 : decode cL_law 1292 = .ok (.iconst 3, 1) := by decide +kernel
theorem dL_law_1293 : decode cL_law 1293 = .ok (.iadd, 1) := by decide +kernel
theorem dL_law_1294 : decode cL_law 1294 = .ok (.iaload, 1) := by decide +kernel
theorem dL_law_1295 : decode cL_law 1295 = .ok (.aload_n 0, 1) := by decide +kernel
theorem dL_law_1296 : decode cL_law 1296 = .ok (.iload_n 3, 1) := by decide +kernel
theorem dL_law_1297 : decode cL_law 1297 = .ok (.iconst 4, 1) := by decide +kernel
theorem dL_law_1298 : decode cL_law 1298 = .ok (.iadd, 1) := by decide +kernel
theorem dL_law_1299 : decode cL_law 1299 = .ok (.iaload, 1) := by decide +kernel
theorem dL_law_1300 : decode cL_law 1300 = .ok (.aload_n 0, 1) := by decide +kernel
theorem dL_law_1301 : decode cL_law 1301 = .ok (.iload_n 3, 1) := by decide +kernel
theorem dL_law_1302 : decode cL_law 1302 = .ok (.iconst 5, 1) := by decide +kernel
theorem dL_law_1303 : decode cL_law 1303 = .ok (.iadd, 1) := by decide +kernel
theorem dL_law_1304 : decode cL_law 1304 = .ok (.iaload, 1) := by decide +kernel
theorem dL_law_1305 : decode cL_law 1305 = .ok (.invokevirtual 166, 3) := by decide +kernel
theorem dL_law_1308 : decode cL_law 1308 = .ok (.if_icmp .eq 5, 3) := by decide +kernel
theorem dL_law_1311 : decode cL_law 1311 = .ok (.iconst 0, 1) := by decide +kernel
theorem dL_law_1312 : decode cL_law 1312 = .ok (.ireturn, 1) := by decide +kernel
theorem dL_law_1313 : decode cL_law 1313 = .ok (.iinc 3 6, 3) := by decide +kernel
theorem dL_law_1316 : decode cL_law 1316 = .ok (.goto (-1298), 3) := by decide +kernel
theorem dL_law_1319 : decode cL_law 1319 = .ok (.iconst 1, 1) := by decide +kernel
theorem dL_law_1320 : decode cL_law 1320 = .ok (.ireturn, 1) := by decide +kernel
def pL_law : List (List gm_A) := [[(gm_new 8), gm_dup, (gm_vcall 8 53 1), (gm_astore 1), (gm_new 9), gm_dup, (gm_vcall 9 99 1), (gm_astore 2), (gm_push (.inl 0)), (gm_istore 3), (gm_goto 1)],
  [(gm_iload 3), (gm_aload 0), gm_alen, (gm_push (.inl 6)), (gm_op2 gm_sub), (gm_cgt 39), (gm_aload 0), (gm_iload 3), gm_iald, (gm_push (.inl 63)), (gm_op2 gm_and), (gm_switch [(0, 2), (1, 3), (2, 4), (3, 5), (4, 6), (5, 7), (6, 8), (7, 9), (8, 10), (9, 11), (10, 12), (11, 13), (12, 14), (13, 15), (14, 16), (15, 17), (16, 18), (17, 19), (18, 20), (19, 21), (20, 22), (21, 23), (22, 24), (23, 25), (24, 26), (25, 27), (26, 28), (27, 29), (28, 30), (29, 31), (30, 32), (31, 33), (32, 34), (33, 35), (34, 36), (35, 37)] 38)],
  [(gm_aload 1), (gm_aload 0), (gm_iload 3), (gm_push (.inl 1)), (gm_op2 gm_add), gm_iald, (gm_aload 0), (gm_iload 3), (gm_push (.inl 2)), (gm_op2 gm_add), gm_iald, (gm_aload 0), (gm_iload 3), (gm_push (.inl 3)), (gm_op2 gm_add), gm_iald, (gm_aload 0), (gm_iload 3), (gm_push (.inl 4)), (gm_op2 gm_add), gm_iald, (gm_vcall 8 54 5), (gm_aload 2), (gm_aload 0), (gm_iload 3), (gm_push (.inl 1)), (gm_op2 gm_add), gm_iald, (gm_aload 0), (gm_iload 3), (gm_push (.inl 2)), (gm_op2 gm_add), gm_iald, (gm_aload 0), (gm_iload 3), (gm_push (.inl 3)), (gm_op2 gm_add), gm_iald, (gm_aload 0), (gm_iload 3), (gm_push (.inl 4)), (gm_op2 gm_add), gm_iald, (gm_vcall 9 102 5), (gm_ceq 38), (gm_push (.inl 0)), gm_zret],
  [(gm_aload 1), (gm_aload 0), (gm_iload 3), (gm_push (.inl 1)), (gm_op2 gm_add), gm_iald, (gm_aload 0), (gm_iload 3), (gm_push (.inl 2)), (gm_op2 gm_add), gm_iald, (gm_vcall 8 55 3), (gm_aload 2), (gm_aload 0), (gm_iload 3), (gm_push (.inl 1)), (gm_op2 gm_add), gm_iald, (gm_aload 0), (gm_iload 3), (gm_push (.inl 2)), (gm_op2 gm_add), gm_iald, (gm_vcall 9 137 3), (gm_ceq 38), (gm_push (.inl 0)), gm_zret],
  [(gm_aload 1), (gm_aload 0), (gm_iload 3), (gm_push (.inl 1)), (gm_op2 gm_add), gm_iald, (gm_aload 0), (gm_iload 3), (gm_push (.inl 2)), (gm_op2 gm_add), gm_iald, (gm_aload 0), (gm_iload 3), (gm_push (.inl 3)), (gm_op2 gm_add), gm_iald, (gm_vcall 8 56 4), (gm_aload 2), (gm_aload 0), (gm_iload 3), (gm_push (.inl 1)), (gm_op2 gm_add), gm_iald, (gm_aload 0), (gm_iload 3), (gm_push (.inl 2)), (gm_op2 gm_add), gm_iald, (gm_aload 0), (gm_iload 3), (gm_push (.inl 3)), (gm_op2 gm_add), gm_iald, (gm_vcall 9 104 4), (gm_ceq 38), (gm_push (.inl 0)), gm_zret],
  [(gm_aload 1), (gm_aload 0), (gm_iload 3), (gm_push (.inl 1)), (gm_op2 gm_add), gm_iald, (gm_aload 0), (gm_iload 3), (gm_push (.inl 2)), (gm_op2 gm_add), gm_iald, (gm_aload 0), (gm_iload 3), (gm_push (.inl 3)), (gm_op2 gm_add), gm_iald, (gm_vcall 8 57 4), (gm_aload 2), (gm_aload 0), (gm_iload 3), (gm_push (.inl 1)), (gm_op2 gm_add), gm_iald, (gm_aload 0), (gm_iload 3), (gm_push (.inl 2)), (gm_op2 gm_add), gm_iald, (gm_aload 0), (gm_iload 3), (gm_push (.inl 3)), (gm_op2 gm_add), gm_iald, (gm_vcall 9 105 4), (gm_ceq 38), (gm_push (.inl 0)), gm_zret],
  [(gm_aload 1), (gm_aload 0), (gm_iload 3), (gm_push (.inl 1)), (gm_op2 gm_add), gm_iald, (gm_vcall 8 58 2), (gm_aload 2), (gm_aload 0), (gm_iload 3), (gm_push (.inl 1)), (gm_op2 gm_add), gm_iald, (gm_vcall 9 106 2), (gm_ceq 38), (gm_push (.inl 0)), gm_zret],
  [(gm_aload 1), (gm_vcall 8 59 1), (gm_aload 2), (gm_vcall 9 121 1), (gm_ceq 38), (gm_push (.inl 0)), gm_zret],
  [(gm_aload 1), (gm_aload 0), (gm_iload 3), (gm_push (.inl 1)), (gm_op2 gm_add), gm_iald, (gm_vcall 8 60 2), (gm_aload 2), (gm_aload 0), (gm_iload 3), (gm_push (.inl 1)), (gm_op2 gm_add), gm_iald, (gm_vcall 9 138 2), (gm_ceq 38), (gm_push (.inl 0)), gm_zret],
  [(gm_aload 1), (gm_vcall 8 61 1), (gm_aload 2), (gm_vcall 9 140 1), (gm_ceq 38), (gm_push (.inl 0)), gm_zret],
  [(gm_aload 1), (gm_aload 0), (gm_iload 3), (gm_push (.inl 1)), (gm_op2 gm_add), gm_iald, (gm_aload 0), (gm_iload 3), (gm_push (.inl 2)), (gm_op2 gm_add), gm_iald, (gm_aload 0), (gm_iload 3), (gm_push (.inl 3)), (gm_op2 gm_add), gm_iald, (gm_vcall 8 62 4), (gm_aload 2), (gm_aload 0), (gm_iload 3), (gm_push (.inl 1)), (gm_op2 gm_add), gm_iald, (gm_aload 0), (gm_iload 3), (gm_push (.inl 2)), (gm_op2 gm_add), gm_iald, (gm_aload 0), (gm_iload 3), (gm_push (.inl 3)), (gm_op2 gm_add), gm_iald, (gm_vcall 9 145 4), (gm_ceq 38), (gm_push (.inl 0)), gm_zret],
  [(gm_aload 1), (gm_aload 0), (gm_iload 3), (gm_push (.inl 1)), (gm_op2 gm_add), gm_iald, (gm_vcall 8 63 2), (gm_aload 2), (gm_aload 0), (gm_iload 3), (gm_push (.inl 1)), (gm_op2 gm_add), gm_iald, (gm_vcall 9 146 2), (gm_ceq 38), (gm_push (.inl 0)), gm_zret],
  [(gm_aload 1), (gm_vcall 8 64 1), (gm_aload 2), (gm_vcall 9 147 1), (gm_ceq 38), (gm_push (.inl 0)), gm_zret],
  [(gm_aload 1), (gm_aload 0), (gm_iload 3), (gm_push (.inl 1)), (gm_op2 gm_add), gm_iald, (gm_vcall 8 65 2), (gm_aload 2), (gm_aload 0), (gm_iload 3), (gm_push (.inl 1)), (gm_op2 gm_add), gm_iald, (gm_vcall 9 148 2), (gm_ceq 38), (gm_push (.inl 0)), gm_zret],
  [(gm_aload 1), (gm_aload 0), (gm_iload 3), (gm_push (.inl 1)), (gm_op2 gm_add), gm_iald, (gm_vcall 8 66 2), (gm_aload 2), (gm_aload 0), (gm_iload 3), (gm_push (.inl 1)), (gm_op2 gm_add), gm_iald, (gm_vcall 9 149 2), (gm_ceq 38), (gm_push (.inl 0)), gm_zret],
  [(gm_aload 1), (gm_aload 0), (gm_iload 3), (gm_push (.inl 1)), (gm_op2 gm_add), gm_iald, (gm_aload 0), (gm_iload 3), (gm_push (.inl 2)), (gm_op2 gm_add), gm_iald, (gm_vcall 8 67 3), (gm_aload 2), (gm_aload 0), (gm_iload 3), (gm_push (.inl 1)), (gm_op2 gm_add), gm_iald, (gm_aload 0), (gm_iload 3), (gm_push (.inl 2)), (gm_op2 gm_add), gm_iald, (gm_vcall 9 150 3), (gm_ceq 38), (gm_push (.inl 0)), gm_zret],
  [(gm_aload 1), (gm_aload 0), (gm_iload 3), (gm_push (.inl 1)), (gm_op2 gm_add), gm_iald, (gm_vcall 8 68 2), (gm_aload 2), (gm_aload 0), (gm_iload 3), (gm_push (.inl 1)), (gm_op2 gm_add), gm_iald, (gm_vcall 9 152 2), (gm_ceq 38), (gm_push (.inl 0)), gm_zret],
  [(gm_aload 1), (gm_aload 0), (gm_iload 3), (gm_push (.inl 1)), (gm_op2 gm_add), gm_iald, (gm_aload 0), (gm_iload 3), (gm_push (.inl 2)), (gm_op2 gm_add), gm_iald, (gm_aload 0), (gm_iload 3), (gm_push (.inl 3)), (gm_op2 gm_add), gm_iald, (gm_vcall 8 69 4), (gm_aload 2), (gm_aload 0), (gm_iload 3), (gm_push (.inl 1)), (gm_op2 gm_add), gm_iald, (gm_aload 0), (gm_iload 3), (gm_push (.inl 2)), (gm_op2 gm_add), gm_iald, (gm_aload 0), (gm_iload 3), (gm_push (.inl 3)), (gm_op2 gm_add), gm_iald, (gm_vcall 9 153 4), (gm_ceq 38), (gm_push (.inl 0)), gm_zret],
  [(gm_aload 1), (gm_aload 0), (gm_iload 3), (gm_push (.inl 1)), (gm_op2 gm_add), gm_iald, (gm_aload 0), (gm_iload 3), (gm_push (.inl 2)), (gm_op2 gm_add), gm_iald, (gm_vcall 8 70 3), (gm_aload 2), (gm_aload 0), (gm_iload 3), (gm_push (.inl 1)), (gm_op2 gm_add), gm_iald, (gm_aload 0), (gm_iload 3), (gm_push (.inl 2)), (gm_op2 gm_add), gm_iald, (gm_vcall 9 154 3), (gm_ceq 38), (gm_push (.inl 0)), gm_zret],
  [(gm_aload 1), (gm_aload 0), (gm_iload 3), (gm_push (.inl 1)), (gm_op2 gm_add), gm_iald, (gm_aload 0), (gm_iload 3), (gm_push (.inl 2)), (gm_op2 gm_add), gm_iald, (gm_vcall 8 71 3), (gm_aload 2), (gm_aload 0), (gm_iload 3), (gm_push (.inl 1)), (gm_op2 gm_add), gm_iald, (gm_aload 0), (gm_iload 3), (gm_push (.inl 2)), (gm_op2 gm_add), gm_iald, (gm_vcall 9 155 3), (gm_ceq 38), (gm_push (.inl 0)), gm_zret],
  [(gm_aload 1), (gm_aload 0), (gm_iload 3), (gm_push (.inl 1)), (gm_op2 gm_add), gm_iald, (gm_aload 0), (gm_iload 3), (gm_push (.inl 2)), (gm_op2 gm_add), gm_iald, (gm_aload 0), (gm_iload 3), (gm_push (.inl 3)), (gm_op2 gm_add), gm_iald, (gm_vcall 8 72 4), (gm_aload 2), (gm_aload 0), (gm_iload 3), (gm_push (.inl 1)), (gm_op2 gm_add), gm_iald, (gm_aload 0), (gm_iload 3), (gm_push (.inl 2)), (gm_op2 gm_add), gm_iald, (gm_aload 0), (gm_iload 3), (gm_push (.inl 3)), (gm_op2 gm_add), gm_iald, (gm_vcall 9 156 4), (gm_ceq 38), (gm_push (.inl 0)), gm_zret],
  [(gm_aload 1), (gm_aload 0), (gm_iload 3), (gm_push (.inl 1)), (gm_op2 gm_add), gm_iald, (gm_vcall 8 73 2), (gm_aload 2), (gm_aload 0), (gm_iload 3), (gm_push (.inl 1)), (gm_op2 gm_add), gm_iald, (gm_vcall 9 158 2), (gm_ceq 38), (gm_push (.inl 0)), gm_zret],
  [(gm_aload 1), (gm_aload 0), (gm_iload 3), (gm_push (.inl 1)), (gm_op2 gm_add), gm_iald, (gm_vcall 8 74 2), (gm_aload 2), (gm_aload 0), (gm_iload 3), (gm_push (.inl 1)), (gm_op2 gm_add), gm_iald, (gm_vcall 9 159 2), (gm_ceq 38), (gm_push (.inl 0)), gm_zret],
  [(gm_aload 1), (gm_aload 0), (gm_iload 3), (gm_push (.inl 1)), (gm_op2 gm_add), gm_iald, (gm_aload 0), (gm_iload 3), (gm_push (.inl 2)), (gm_op2 gm_add), gm_iald, (gm_vcall 8 75 3), (gm_aload 2), (gm_aload 0), (gm_iload 3), (gm_push (.inl 1)), (gm_op2 gm_add), gm_iald, (gm_aload 0), (gm_iload 3), (gm_push (.inl 2)), (gm_op2 gm_add), gm_iald, (gm_vcall 9 162 3), gm_lcmp, (gm_ifeq 38), (gm_push (.inl 0)), gm_zret],
  [(gm_aload 1), (gm_aload 0), (gm_iload 3), (gm_push (.inl 1)), (gm_op2 gm_add), gm_iald, (gm_aload 0), (gm_iload 3), (gm_push (.inl 2)), (gm_op2 gm_add), gm_iald, (gm_vcall 8 76 3), (gm_aload 2), (gm_aload 0), (gm_iload 3), (gm_push (.inl 1)), (gm_op2 gm_add), gm_iald, (gm_aload 0), (gm_iload 3), (gm_push (.inl 2)), (gm_op2 gm_add), gm_iald, (gm_vcall 9 163 3), gm_lcmp, (gm_ifeq 38), (gm_push (.inl 0)), gm_zret],
  [(gm_aload 1), (gm_aload 0), (gm_iload 3), (gm_push (.inl 1)), (gm_op2 gm_add), gm_iald, (gm_vcall 8 77 2), (gm_aload 2), (gm_aload 0), (gm_iload 3), (gm_push (.inl 1)), (gm_op2 gm_add), gm_iald, (gm_vcall 9 164 2), (gm_ceq 38), (gm_push (.inl 0)), gm_zret],
  [(gm_aload 1), (gm_vcall 8 78 1), (gm_aload 2), (gm_vcall 9 165 1), (gm_ceq 38), (gm_push (.inl 0)), gm_zret],
  [(gm_aload 1), (gm_aload 0), (gm_iload 3), (gm_push (.inl 1)), (gm_op2 gm_add), gm_iald, (gm_aload 0), (gm_iload 3), (gm_push (.inl 2)), (gm_op2 gm_add), gm_iald, (gm_vcall 8 79 3), (gm_aload 2), (gm_aload 0), (gm_iload 3), (gm_push (.inl 1)), (gm_op2 gm_add), gm_iald, (gm_aload 0), (gm_iload 3), (gm_push (.inl 2)), (gm_op2 gm_add), gm_iald, (gm_vcall 9 166 3), (gm_ceq 38), (gm_push (.inl 0)), gm_zret],
  [(gm_aload 1), (gm_vcall 8 80 1), (gm_aload 2), (gm_vcall 9 167 1), (gm_ceq 38), (gm_push (.inl 0)), gm_zret],
  [(gm_aload 1), (gm_vcall 8 81 1), (gm_aload 2), (gm_vcall 9 168 1), (gm_ceq 38), (gm_push (.inl 0)), gm_zret],
  [(gm_aload 1), (gm_aload 0), (gm_iload 3), (gm_push (.inl 1)), (gm_op2 gm_add), gm_iald, (gm_aload 0), (gm_iload 3), (gm_push (.inl 2)), (gm_op2 gm_add), gm_iald, (gm_aload 0), (gm_iload 3), (gm_push (.inl 3)), (gm_op2 gm_add), gm_iald, (gm_vcall 8 82 4), (gm_aload 2), (gm_aload 0), (gm_iload 3), (gm_push (.inl 1)), (gm_op2 gm_add), gm_iald, (gm_aload 0), (gm_iload 3), (gm_push (.inl 2)), (gm_op2 gm_add), gm_iald, (gm_aload 0), (gm_iload 3), (gm_push (.inl 3)), (gm_op2 gm_add), gm_iald, (gm_vcall 9 177 4), (gm_ceq 38), (gm_push (.inl 0)), gm_zret],
  [(gm_aload 1), (gm_aload 0), (gm_iload 3), (gm_push (.inl 1)), (gm_op2 gm_add), gm_iald, (gm_vcall 8 83 2), (gm_aload 2), (gm_aload 0), (gm_iload 3), (gm_push (.inl 1)), (gm_op2 gm_add), gm_iald, (gm_vcall 9 178 2), (gm_ceq 38), (gm_push (.inl 0)), gm_zret],
  [(gm_aload 1), (gm_aload 0), (gm_iload 3), (gm_push (.inl 1)), (gm_op2 gm_add), gm_iald, (gm_aload 0), (gm_iload 3), (gm_push (.inl 2)), (gm_op2 gm_add), gm_iald, (gm_vcall 8 84 3), (gm_aload 2), (gm_aload 0), (gm_iload 3), (gm_push (.inl 1)), (gm_op2 gm_add), gm_iald, (gm_aload 0), (gm_iload 3), (gm_push (.inl 2)), (gm_op2 gm_add), gm_iald, (gm_vcall 9 179 3), (gm_ceq 38), (gm_push (.inl 0)), gm_zret],
  [(gm_aload 1), (gm_aload 0), (gm_iload 3), (gm_push (.inl 1)), (gm_op2 gm_add), gm_iald, (gm_vcall 8 85 2), (gm_aload 2), (gm_aload 0), (gm_iload 3), (gm_push (.inl 1)), (gm_op2 gm_add), gm_iald, (gm_vcall 9 180 2), (gm_ceq 38), (gm_push (.inl 0)), gm_zret],
  [(gm_aload 1), (gm_aload 0), (gm_iload 3), (gm_push (.inl 1)), (gm_op2 gm_add), gm_iald, (gm_aload 0), (gm_iload 3), (gm_push (.inl 2)), (gm_op2 gm_add), gm_iald, (gm_aload 0), (gm_iload 3), (gm_push (.inl 3)), (gm_op2 gm_add), gm_iald, (gm_vcall 8 86 4), (gm_aload 2), (gm_aload 0), (gm_iload 3), (gm_push (.inl 1)), (gm_op2 gm_add), gm_iald, (gm_aload 0), (gm_iload 3), (gm_push (.inl 2)), (gm_op2 gm_add), gm_iald, (gm_aload 0), (gm_iload 3), (gm_push (.inl 3)), (gm_op2 gm_add), gm_iald, (gm_vcall 9 182 4), (gm_ceq 38), (gm_push (.inl 0)), gm_zret],
  [(gm_aload 1), (gm_aload 0), (gm_iload 3), (gm_push (.inl 1)), (gm_op2 gm_add), gm_iald, (gm_aload 0), (gm_iload 3), (gm_push (.inl 2)), (gm_op2 gm_add), gm_iald, (gm_aload 0), (gm_iload 3), (gm_push (.inl 3)), (gm_op2 gm_add), gm_iald, gm_i2l, (gm_push (.inl 32)), gm_lshl, (gm_aload 0), (gm_iload 3), (gm_push (.inl 4)), (gm_op2 gm_add), gm_iald, gm_i2l, (gm_push (.inr (.inl (4294967295)))), (gm_lop2 gm_land), (gm_lop2 gm_lor), (gm_vcall 8 87 4), (gm_aload 2), (gm_aload 0), (gm_iload 3), (gm_push (.inl 1)), (gm_op2 gm_add), gm_iald, (gm_aload 0), (gm_iload 3), (gm_push (.inl 2)), (gm_op2 gm_add), gm_iald, (gm_aload 0), (gm_iload 3), (gm_push (.inl 3)), (gm_op2 gm_add), gm_iald, gm_i2l, (gm_push (.inl 32)), gm_lshl, (gm_aload 0), (gm_iload 3), (gm_push (.inl 4)), (gm_op2 gm_add), gm_iald, gm_i2l, (gm_push (.inr (.inl (4294967295)))), (gm_lop2 gm_land), (gm_lop2 gm_lor), (gm_vcall 9 184 4), (gm_ceq 38), (gm_push (.inl 0)), gm_zret],
  [(gm_aload 1), (gm_aload 0), (gm_iload 3), (gm_push (.inl 1)), (gm_op2 gm_add), gm_iald, (gm_aload 0), (gm_iload 3), (gm_push (.inl 2)), (gm_op2 gm_add), gm_iald, (gm_vcall 8 88 3), (gm_aload 2), (gm_aload 0), (gm_iload 3), (gm_push (.inl 1)), (gm_op2 gm_add), gm_iald, (gm_aload 0), (gm_iload 3), (gm_push (.inl 2)), (gm_op2 gm_add), gm_iald, (gm_vcall 9 185 3), gm_lcmp, (gm_ifeq 38), (gm_push (.inl 0)), gm_zret],
  [(gm_aload 1), (gm_aload 0), (gm_iload 3), (gm_push (.inl 1)), (gm_op2 gm_add), gm_iald, (gm_aload 0), (gm_iload 3), (gm_push (.inl 2)), (gm_op2 gm_add), gm_iald, (gm_aload 0), (gm_iload 3), (gm_push (.inl 3)), (gm_op2 gm_add), gm_iald, (gm_aload 0), (gm_iload 3), (gm_push (.inl 4)), (gm_op2 gm_add), gm_iald, (gm_aload 0), (gm_iload 3), (gm_push (.inl 5)), (gm_op2 gm_add), gm_iald, (gm_vcall 8 89 6), (gm_aload 2), (gm_aload 0), (gm_iload 3), (gm_push (.inl 1)), (gm_op2 gm_add), gm_iald, (gm_aload 0), (gm_iload 3), (gm_push (.inl 2)), (gm_op2 gm_add), gm_iald, (gm_aload 0), (gm_iload 3), (gm_push (.inl 3)), (gm_op2 gm_add), gm_iald, (gm_aload 0), (gm_iload 3), (gm_push (.inl 4)), (gm_op2 gm_add), gm_iald, (gm_aload 0), (gm_iload 3), (gm_push (.inl 5)), (gm_op2 gm_add), gm_iald, (gm_vcall 9 186 6), (gm_ceq 38), (gm_push (.inl 0)), gm_zret],
  [(gm_iinc 3 6), (gm_goto 1)],
  [(gm_push (.inl 1)), gm_zret]]
def bpL_law : Nat → Nat := fun b => ([0, 18, 192, 245, 278, 321, 364, 387, 400, 423, 436, 479, 502, 515, 538, 561, 594, 617, 660, 693, 726, 769, 792, 815, 849, 883, 906, 919, 952, 965, 978, 1021, 1044, 1077, 1100, 1143, 1216, 1250, 1313, 1319] : List Nat).getD b 0
set_option maxRecDepth 100000 in
theorem tL_law {D : va_G} {sz : Nat} {ad : Nat → Nat} {cA : Nat → ClassId} {xs : Int → Int} {Ln : Int} {l : Launch} : gm_SB D sz ad cA xs Ln l gm_mt cL_law "LongNoonLaw" 4 false 2 bpL_law 0 pL_law :=
  ⟨gm_cn 3 (gm_m_new _) (gnw_8 gw_332 dL_law_0) (
    gm_cn 4 gm_m_dup (gm_s_dup dL_law_3) (
    gm_cn 7 (gm_m_vcall _ _ _) (gcl_X8_init gw_333 dL_law_4) (
    gm_cn 8 (gm_m_astore _) (gm_s_astore_n dL_law_7 rfl (by decide)) (
    gm_cn 11 (gm_m_new _) (gnw_9 gw_334 dL_law_8) (
    gm_cn 12 gm_m_dup (gm_s_dup dL_law_11) (
    gm_cn 15 (gm_m_vcall _ _ _) (gcl_X9_init gw_335 dL_law_12) (
    gm_cn 16 (gm_m_astore _) (gm_s_astore_n dL_law_15 rfl (by decide)) (
    gm_cn 17 (gm_m_push _) (gm_s_iconst dL_law_16) (
    gm_cn 18 (gm_m_istore _) (gm_s_istore_n dL_law_17 rfl (by decide)) (
    gm_cn 0 (gm_m_goto _) (gm_s_fall (bpc := bpL_law) (b := 1) rfl 0) (
    trivial))))))))))),
  gm_cn 19 (gm_m_iload _) (gm_s_iload_n dL_law_18 rfl) (
    gm_cn 20 (gm_m_aload _) (gm_s_aload_n dL_law_19 rfl) (
    gm_cn 21 gm_m_alen (gm_s_alen dL_law_20) (
    gm_cn 23 (gm_m_push _) (gm_s_bipush dL_law_21 rfl) (
    gm_cn 24 (gm_m_op2 _) (gm_s_isub dL_law_23) (
    gm_cn 27 (gm_m_cgt _) (gm_s_cgt (bpc := bpL_law) (b := 39) dL_law_24 rfl) (
    gm_cn 28 (gm_m_aload _) (gm_s_aload_n dL_law_27 rfl) (
    gm_cn 29 (gm_m_iload _) (gm_s_iload_n dL_law_28 rfl) (
    gm_cn 30 gm_m_iald (gm_s_iald dL_law_29) (
    gm_cn 32 (gm_m_push _) (gm_s_bipush dL_law_30 rfl) (
    gm_cn 33 (gm_m_op2 _) (gm_s_iand dL_law_32) (
    gm_cn 0 (gm_m_switch _ _) (gm_s_table (bpc := bpL_law) (ps := [(0, 2), (1, 3), (2, 4), (3, 5), (4, 6), (5, 7), (6, 8), (7, 9), (8, 10), (9, 11), (10, 12), (11, 13), (12, 14), (13, 15), (14, 16), (15, 17), (16, 18), (17, 19), (18, 20), (19, 21), (20, 22), (21, 23), (22, 24), (23, 25), (24, 26), (25, 27), (26, 28), (27, 29), (28, 30), (29, 31), (30, 32), (31, 33), (32, 34), (33, 35), (34, 36), (35, 37)]) (d := 38) dL_law_33 rfl rfl rfl 0) (
    trivial)))))))))))),
  gm_cn 193 (gm_m_aload _) (gm_s_aload_n dL_law_192 rfl) (
    gm_cn 194 (gm_m_aload _) (gm_s_aload_n dL_law_193 rfl) (
    gm_cn 195 (gm_m_iload _) (gm_s_iload_n dL_law_194 rfl) (
    gm_cn 196 (gm_m_push _) (gm_s_iconst dL_law_195) (
    gm_cn 197 (gm_m_op2 _) (gm_s_iadd dL_law_196) (
    gm_cn 198 gm_m_iald (gm_s_iald dL_law_197) (
    gm_cn 199 (gm_m_aload _) (gm_s_aload_n dL_law_198 rfl) (
    gm_cn 200 (gm_m_iload _) (gm_s_iload_n dL_law_199 rfl) (
    gm_cn 201 (gm_m_push _) (gm_s_iconst dL_law_200) (
    gm_cn 202 (gm_m_op2 _) (gm_s_iadd dL_law_201) (
    gm_cn 203 gm_m_iald (gm_s_iald dL_law_202) (
    gm_cn 204 (gm_m_aload _) (gm_s_aload_n dL_law_203 rfl) (
    gm_cn 205 (gm_m_iload _) (gm_s_iload_n dL_law_204 rfl) (
    gm_cn 206 (gm_m_push _) (gm_s_iconst dL_law_205) (
    gm_cn 207 (gm_m_op2 _) (gm_s_iadd dL_law_206) (
    gm_cn 208 gm_m_iald (gm_s_iald dL_law_207) (
    gm_cn 209 (gm_m_aload _) (gm_s_aload_n dL_law_208 rfl) (
    gm_cn 210 (gm_m_iload _) (gm_s_iload_n dL_law_209 rfl) (
    gm_cn 211 (gm_m_push _) (gm_s_iconst dL_law_210) (
    gm_cn 212 (gm_m_op2 _) (gm_s_iadd dL_law_211) (
    gm_cn 213 gm_m_iald (gm_s_iald dL_law_212) (
    gm_cn 216 (gm_m_vcall _ _ _) (gcl_X8_house gw_336 dL_law_213) (
    gm_cn 217 (gm_m_aload _) (gm_s_aload_n dL_law_216 rfl) (
    gm_cn 218 (gm_m_aload _) (gm_s_aload_n dL_law_217 rfl) (
    gm_cn 219 (gm_m_iload _) (gm_s_iload_n dL_law_218 rfl) (
    gm_cn 220 (gm_m_push _) (gm_s_iconst dL_law_219) (
    gm_cn 221 (gm_m_op2 _) (gm_s_iadd dL_law_220) (
    gm_cn 222 gm_m_iald (gm_s_iald dL_law_221) (
    gm_cn 223 (gm_m_aload _) (gm_s_aload_n dL_law_222 rfl) (
    gm_cn 224 (gm_m_iload _) (gm_s_iload_n dL_law_223 rfl) (
    gm_cn 225 (gm_m_push _) (gm_s_iconst dL_law_224) (
    gm_cn 226 (gm_m_op2 _) (gm_s_iadd dL_law_225) (
    gm_cn 227 gm_m_iald (gm_s_iald dL_law_226) (
    gm_cn 228 (gm_m_aload _) (gm_s_aload_n dL_law_227 rfl) (
    gm_cn 229 (gm_m_iload _) (gm_s_iload_n dL_law_228 rfl) (
    gm_cn 230 (gm_m_push _) (gm_s_iconst dL_law_229) (
    gm_cn 231 (gm_m_op2 _) (gm_s_iadd dL_law_230) (
    gm_cn 232 gm_m_iald (gm_s_iald dL_law_231) (
    gm_cn 233 (gm_m_aload _) (gm_s_aload_n dL_law_232 rfl) (
    gm_cn 234 (gm_m_iload _) (gm_s_iload_n dL_law_233 rfl) (
    gm_cn 235 (gm_m_push _) (gm_s_iconst dL_law_234) (
    gm_cn 236 (gm_m_op2 _) (gm_s_iadd dL_law_235) (
    gm_cn 237 gm_m_iald (gm_s_iald dL_law_236) (
    gm_cn 240 (gm_m_vcall _ _ _) (gcl_X9_house gw_337 dL_law_237) (
    gm_cn 243 (gm_m_ceq _) (gm_s_ceq (bpc := bpL_law) (b := 38) dL_law_240 rfl) (
    gm_cn 244 (gm_m_push _) (gm_s_iconst dL_law_243) (
    gm_cn 0 gm_m_zret (gm_s_zret dL_law_244 rfl 0) (
    trivial))))))))))))))))))))))))))))))))))))))))))))))),
  gm_cn 246 (gm_m_aload _) (gm_s_aload_n dL_law_245 rfl) (
    gm_cn 247 (gm_m_aload _) (gm_s_aload_n dL_law_246 rfl) (
    gm_cn 248 (gm_m_iload _) (gm_s_iload_n dL_law_247 rfl) (
    gm_cn 249 (gm_m_push _) (gm_s_iconst dL_law_248) (
    gm_cn 250 (gm_m_op2 _) (gm_s_iadd dL_law_249) (
    gm_cn 251 gm_m_iald (gm_s_iald dL_law_250) (
    gm_cn 252 (gm_m_aload _) (gm_s_aload_n dL_law_251 rfl) (
    gm_cn 253 (gm_m_iload _) (gm_s_iload_n dL_law_252 rfl) (
    gm_cn 254 (gm_m_push _) (gm_s_iconst dL_law_253) (
    gm_cn 255 (gm_m_op2 _) (gm_s_iadd dL_law_254) (
    gm_cn 256 gm_m_iald (gm_s_iald dL_law_255) (
    gm_cn 259 (gm_m_vcall _ _ _) (gcl_X8_of gw_338 dL_law_256) (
    gm_cn 260 (gm_m_aload _) (gm_s_aload_n dL_law_259 rfl) (
    gm_cn 261 (gm_m_aload _) (gm_s_aload_n dL_law_260 rfl) (
    gm_cn 262 (gm_m_iload _) (gm_s_iload_n dL_law_261 rfl) (
    gm_cn 263 (gm_m_push _) (gm_s_iconst dL_law_262) (
    gm_cn 264 (gm_m_op2 _) (gm_s_iadd dL_law_263) (
    gm_cn 265 gm_m_iald (gm_s_iald dL_law_264) (
    gm_cn 266 (gm_m_aload _) (gm_s_aload_n dL_law_265 rfl) (
    gm_cn 267 (gm_m_iload _) (gm_s_iload_n dL_law_266 rfl) (
    gm_cn 268 (gm_m_push _) (gm_s_iconst dL_law_267) (
    gm_cn 269 (gm_m_op2 _) (gm_s_iadd dL_law_268) (
    gm_cn 270 gm_m_iald (gm_s_iald dL_law_269) (
    gm_cn 273 (gm_m_vcall _ _ _) (gcl_X9_of gw_339 dL_law_270) (
    gm_cn 276 (gm_m_ceq _) (gm_s_ceq (bpc := bpL_law) (b := 38) dL_law_273 rfl) (
    gm_cn 277 (gm_m_push _) (gm_s_iconst dL_law_276) (
    gm_cn 0 gm_m_zret (gm_s_zret dL_law_277 rfl 0) (
    trivial))))))))))))))))))))))))))),
  gm_cn 279 (gm_m_aload _) (gm_s_aload_n dL_law_278 rfl) (
    gm_cn 280 (gm_m_aload _) (gm_s_aload_n dL_law_279 rfl) (
    gm_cn 281 (gm_m_iload _) (gm_s_iload_n dL_law_280 rfl) (
    gm_cn 282 (gm_m_push _) (gm_s_iconst dL_law_281) (
    gm_cn 283 (gm_m_op2 _) (gm_s_iadd dL_law_282) (
    gm_cn 284 gm_m_iald (gm_s_iald dL_law_283) (
    gm_cn 285 (gm_m_aload _) (gm_s_aload_n dL_law_284 rfl) (
    gm_cn 286 (gm_m_iload _) (gm_s_iload_n dL_law_285 rfl) (
    gm_cn 287 (gm_m_push _) (gm_s_iconst dL_law_286) (
    gm_cn 288 (gm_m_op2 _) (gm_s_iadd dL_law_287) (
    gm_cn 289 gm_m_iald (gm_s_iald dL_law_288) (
    gm_cn 290 (gm_m_aload _) (gm_s_aload_n dL_law_289 rfl) (
    gm_cn 291 (gm_m_iload _) (gm_s_iload_n dL_law_290 rfl) (
    gm_cn 292 (gm_m_push _) (gm_s_iconst dL_law_291) (
    gm_cn 293 (gm_m_op2 _) (gm_s_iadd dL_law_292) (
    gm_cn 294 gm_m_iald (gm_s_iald dL_law_293) (
    gm_cn 297 (gm_m_vcall _ _ _) (gcl_X8_set gw_340 dL_law_294) (
    gm_cn 298 (gm_m_aload _) (gm_s_aload_n dL_law_297 rfl) (
    gm_cn 299 (gm_m_aload _) (gm_s_aload_n dL_law_298 rfl) (
    gm_cn 300 (gm_m_iload _) (gm_s_iload_n dL_law_299 rfl) (
    gm_cn 301 (gm_m_push _) (gm_s_iconst dL_law_300) (
    gm_cn 302 (gm_m_op2 _) (gm_s_iadd dL_law_301) (
    gm_cn 303 gm_m_iald (gm_s_iald dL_law_302) (
    gm_cn 304 (gm_m_aload _) (gm_s_aload_n dL_law_303 rfl) (
    gm_cn 305 (gm_m_iload _) (gm_s_iload_n dL_law_304 rfl) (
    gm_cn 306 (gm_m_push _) (gm_s_iconst dL_law_305) (
    gm_cn 307 (gm_m_op2 _) (gm_s_iadd dL_law_306) (
    gm_cn 308 gm_m_iald (gm_s_iald dL_law_307) (
    gm_cn 309 (gm_m_aload _) (gm_s_aload_n dL_law_308 rfl) (
    gm_cn 310 (gm_m_iload _) (gm_s_iload_n dL_law_309 rfl) (
    gm_cn 311 (gm_m_push _) (gm_s_iconst dL_law_310) (
    gm_cn 312 (gm_m_op2 _) (gm_s_iadd dL_law_311) (
    gm_cn 313 gm_m_iald (gm_s_iald dL_law_312) (
    gm_cn 316 (gm_m_vcall _ _ _) (gcl_X9_set gw_341 dL_law_313) (
    gm_cn 319 (gm_m_ceq _) (gm_s_ceq (bpc := bpL_law) (b := 38) dL_law_316 rfl) (
    gm_cn 320 (gm_m_push _) (gm_s_iconst dL_law_319) (
    gm_cn 0 gm_m_zret (gm_s_zret dL_law_320 rfl 0) (
    trivial))))))))))))))))))))))))))))))))))))),
  gm_cn 322 (gm_m_aload _) (gm_s_aload_n dL_law_321 rfl) (
    gm_cn 323 (gm_m_aload _) (gm_s_aload_n dL_law_322 rfl) (
    gm_cn 324 (gm_m_iload _) (gm_s_iload_n dL_law_323 rfl) (
    gm_cn 325 (gm_m_push _) (gm_s_iconst dL_law_324) (
    gm_cn 326 (gm_m_op2 _) (gm_s_iadd dL_law_325) (
    gm_cn 327 gm_m_iald (gm_s_iald dL_law_326) (
    gm_cn 328 (gm_m_aload _) (gm_s_aload_n dL_law_327 rfl) (
    gm_cn 329 (gm_m_iload _) (gm_s_iload_n dL_law_328 rfl) (
    gm_cn 330 (gm_m_push _) (gm_s_iconst dL_law_329) (
    gm_cn 331 (gm_m_op2 _) (gm_s_iadd dL_law_330) (
    gm_cn 332 gm_m_iald (gm_s_iald dL_law_331) (
    gm_cn 333 (gm_m_aload _) (gm_s_aload_n dL_law_332 rfl) (
    gm_cn 334 (gm_m_iload _) (gm_s_iload_n dL_law_333 rfl) (
    gm_cn 335 (gm_m_push _) (gm_s_iconst dL_law_334) (
    gm_cn 336 (gm_m_op2 _) (gm_s_iadd dL_law_335) (
    gm_cn 337 gm_m_iald (gm_s_iald dL_law_336) (
    gm_cn 340 (gm_m_vcall _ _ _) (gcl_X8_row gw_342 dL_law_337) (
    gm_cn 341 (gm_m_aload _) (gm_s_aload_n dL_law_340 rfl) (
    gm_cn 342 (gm_m_aload _) (gm_s_aload_n dL_law_341 rfl) (
    gm_cn 343 (gm_m_iload _) (gm_s_iload_n dL_law_342 rfl) (
    gm_cn 344 (gm_m_push _) (gm_s_iconst dL_law_343) (
    gm_cn 345 (gm_m_op2 _) (gm_s_iadd dL_law_344) (
    gm_cn 346 gm_m_iald (gm_s_iald dL_law_345) (
    gm_cn 347 (gm_m_aload _) (gm_s_aload_n dL_law_346 rfl) (
    gm_cn 348 (gm_m_iload _) (gm_s_iload_n dL_law_347 rfl) (
    gm_cn 349 (gm_m_push _) (gm_s_iconst dL_law_348) (
    gm_cn 350 (gm_m_op2 _) (gm_s_iadd dL_law_349) (
    gm_cn 351 gm_m_iald (gm_s_iald dL_law_350) (
    gm_cn 352 (gm_m_aload _) (gm_s_aload_n dL_law_351 rfl) (
    gm_cn 353 (gm_m_iload _) (gm_s_iload_n dL_law_352 rfl) (
    gm_cn 354 (gm_m_push _) (gm_s_iconst dL_law_353) (
    gm_cn 355 (gm_m_op2 _) (gm_s_iadd dL_law_354) (
    gm_cn 356 gm_m_iald (gm_s_iald dL_law_355) (
    gm_cn 359 (gm_m_vcall _ _ _) (gcl_X9_row gw_343 dL_law_356) (
    gm_cn 362 (gm_m_ceq _) (gm_s_ceq (bpc := bpL_law) (b := 38) dL_law_359 rfl) (
    gm_cn 363 (gm_m_push _) (gm_s_iconst dL_law_362) (
    gm_cn 0 gm_m_zret (gm_s_zret dL_law_363 rfl 0) (
    trivial))))))))))))))))))))))))))))))))))))),
  gm_cn 365 (gm_m_aload _) (gm_s_aload_n dL_law_364 rfl) (
    gm_cn 366 (gm_m_aload _) (gm_s_aload_n dL_law_365 rfl) (
    gm_cn 367 (gm_m_iload _) (gm_s_iload_n dL_law_366 rfl) (
    gm_cn 368 (gm_m_push _) (gm_s_iconst dL_law_367) (
    gm_cn 369 (gm_m_op2 _) (gm_s_iadd dL_law_368) (
    gm_cn 370 gm_m_iald (gm_s_iald dL_law_369) (
    gm_cn 373 (gm_m_vcall _ _ _) (gcl_X8_feed gw_344 dL_law_370) (
    gm_cn 374 (gm_m_aload _) (gm_s_aload_n dL_law_373 rfl) (
    gm_cn 375 (gm_m_aload _) (gm_s_aload_n dL_law_374 rfl) (
    gm_cn 376 (gm_m_iload _) (gm_s_iload_n dL_law_375 rfl) (
    gm_cn 377 (gm_m_push _) (gm_s_iconst dL_law_376) (
    gm_cn 378 (gm_m_op2 _) (gm_s_iadd dL_law_377) (
    gm_cn 379 gm_m_iald (gm_s_iald dL_law_378) (
    gm_cn 382 (gm_m_vcall _ _ _) (gcl_X9_feed gw_345 dL_law_379) (
    gm_cn 385 (gm_m_ceq _) (gm_s_ceq (bpc := bpL_law) (b := 38) dL_law_382 rfl) (
    gm_cn 386 (gm_m_push _) (gm_s_iconst dL_law_385) (
    gm_cn 0 gm_m_zret (gm_s_zret dL_law_386 rfl 0) (
    trivial))))))))))))))))),
  gm_cn 388 (gm_m_aload _) (gm_s_aload_n dL_law_387 rfl) (
    gm_cn 391 (gm_m_vcall _ _ _) (gcl_X8_ground gw_346 dL_law_388) (
    gm_cn 392 (gm_m_aload _) (gm_s_aload_n dL_law_391 rfl) (
    gm_cn 395 (gm_m_vcall _ _ _) (gcl_X9_ground gw_347 dL_law_392) (
    gm_cn 398 (gm_m_ceq _) (gm_s_ceq (bpc := bpL_law) (b := 38) dL_law_395 rfl) (
    gm_cn 399 (gm_m_push _) (gm_s_iconst dL_law_398) (
    gm_cn 0 gm_m_zret (gm_s_zret dL_law_399 rfl 0) (
    trivial))))))),
  gm_cn 401 (gm_m_aload _) (gm_s_aload_n dL_law_400 rfl) (
    gm_cn 402 (gm_m_aload _) (gm_s_aload_n dL_law_401 rfl) (
    gm_cn 403 (gm_m_iload _) (gm_s_iload_n dL_law_402 rfl) (
    gm_cn 404 (gm_m_push _) (gm_s_iconst dL_law_403) (
    gm_cn 405 (gm_m_op2 _) (gm_s_iadd dL_law_404) (
    gm_cn 406 gm_m_iald (gm_s_iald dL_law_405) (
    gm_cn 409 (gm_m_vcall _ _ _) (gcl_X8_told gw_348 dL_law_406) (
    gm_cn 410 (gm_m_aload _) (gm_s_aload_n dL_law_409 rfl) (
    gm_cn 411 (gm_m_aload _) (gm_s_aload_n dL_law_410 rfl) (
    gm_cn 412 (gm_m_iload _) (gm_s_iload_n dL_law_411 rfl) (
    gm_cn 413 (gm_m_push _) (gm_s_iconst dL_law_412) (
    gm_cn 414 (gm_m_op2 _) (gm_s_iadd dL_law_413) (
    gm_cn 415 gm_m_iald (gm_s_iald dL_law_414) (
    gm_cn 418 (gm_m_vcall _ _ _) (gcl_X9_told gw_349 dL_law_415) (
    gm_cn 421 (gm_m_ceq _) (gm_s_ceq (bpc := bpL_law) (b := 38) dL_law_418 rfl) (
    gm_cn 422 (gm_m_push _) (gm_s_iconst dL_law_421) (
    gm_cn 0 gm_m_zret (gm_s_zret dL_law_422 rfl 0) (
    trivial))))))))))))))))),
  gm_cn 424 (gm_m_aload _) (gm_s_aload_n dL_law_423 rfl) (
    gm_cn 427 (gm_m_vcall _ _ _) (gcl_X8_day gw_350 dL_law_424) (
    gm_cn 428 (gm_m_aload _) (gm_s_aload_n dL_law_427 rfl) (
    gm_cn 431 (gm_m_vcall _ _ _) (gcl_X9_day gw_351 dL_law_428) (
    gm_cn 434 (gm_m_ceq _) (gm_s_ceq (bpc := bpL_law) (b := 38) dL_law_431 rfl) (
    gm_cn 435 (gm_m_push _) (gm_s_iconst dL_law_434) (
    gm_cn 0 gm_m_zret (gm_s_zret dL_law_435 rfl 0) (
    trivial))))))),
  gm_cn 437 (gm_m_aload _) (gm_s_aload_n dL_law_436 rfl) (
    gm_cn 438 (gm_m_aload _) (gm_s_aload_n dL_law_437 rfl) (
    gm_cn 439 (gm_m_iload _) (gm_s_iload_n dL_law_438 rfl) (
    gm_cn 440 (gm_m_push _) (gm_s_iconst dL_law_439) (
    gm_cn 441 (gm_m_op2 _) (gm_s_iadd dL_law_440) (
    gm_cn 442 gm_m_iald (gm_s_iald dL_law_441) (
    gm_cn 443 (gm_m_aload _) (gm_s_aload_n dL_law_442 rfl) (
    gm_cn 444 (gm_m_iload _) (gm_s_iload_n dL_law_443 rfl) (
    gm_cn 445 (gm_m_push _) (gm_s_iconst dL_law_444) (
    gm_cn 446 (gm_m_op2 _) (gm_s_iadd dL_law_445) (
    gm_cn 447 gm_m_iald (gm_s_iald dL_law_446) (
    gm_cn 448 (gm_m_aload _) (gm_s_aload_n dL_law_447 rfl) (
    gm_cn 449 (gm_m_iload _) (gm_s_iload_n dL_law_448 rfl) (
    gm_cn 450 (gm_m_push _) (gm_s_iconst dL_law_449) (
    gm_cn 451 (gm_m_op2 _) (gm_s_iadd dL_law_450) (
    gm_cn 452 gm_m_iald (gm_s_iald dL_law_451) (
    gm_cn 455 (gm_m_vcall _ _ _) (gcl_X8_on gw_352 dL_law_452) (
    gm_cn 456 (gm_m_aload _) (gm_s_aload_n dL_law_455 rfl) (
    gm_cn 457 (gm_m_aload _) (gm_s_aload_n dL_law_456 rfl) (
    gm_cn 458 (gm_m_iload _) (gm_s_iload_n dL_law_457 rfl) (
    gm_cn 459 (gm_m_push _) (gm_s_iconst dL_law_458) (
    gm_cn 460 (gm_m_op2 _) (gm_s_iadd dL_law_459) (
    gm_cn 461 gm_m_iald (gm_s_iald dL_law_460) (
    gm_cn 462 (gm_m_aload _) (gm_s_aload_n dL_law_461 rfl) (
    gm_cn 463 (gm_m_iload _) (gm_s_iload_n dL_law_462 rfl) (
    gm_cn 464 (gm_m_push _) (gm_s_iconst dL_law_463) (
    gm_cn 465 (gm_m_op2 _) (gm_s_iadd dL_law_464) (
    gm_cn 466 gm_m_iald (gm_s_iald dL_law_465) (
    gm_cn 467 (gm_m_aload _) (gm_s_aload_n dL_law_466 rfl) (
    gm_cn 468 (gm_m_iload _) (gm_s_iload_n dL_law_467 rfl) (
    gm_cn 469 (gm_m_push _) (gm_s_iconst dL_law_468) (
    gm_cn 470 (gm_m_op2 _) (gm_s_iadd dL_law_469) (
    gm_cn 471 gm_m_iald (gm_s_iald dL_law_470) (
    gm_cn 474 (gm_m_vcall _ _ _) (gcl_X9_on gw_353 dL_law_471) (
    gm_cn 477 (gm_m_ceq _) (gm_s_ceq (bpc := bpL_law) (b := 38) dL_law_474 rfl) (
    gm_cn 478 (gm_m_push _) (gm_s_iconst dL_law_477) (
    gm_cn 0 gm_m_zret (gm_s_zret dL_law_478 rfl 0) (
    trivial))))))))))))))))))))))))))))))))))))),
  gm_cn 480 (gm_m_aload _) (gm_s_aload_n dL_law_479 rfl) (
    gm_cn 481 (gm_m_aload _) (gm_s_aload_n dL_law_480 rfl) (
    gm_cn 482 (gm_m_iload _) (gm_s_iload_n dL_law_481 rfl) (
    gm_cn 483 (gm_m_push _) (gm_s_iconst dL_law_482) (
    gm_cn 484 (gm_m_op2 _) (gm_s_iadd dL_law_483) (
    gm_cn 485 gm_m_iald (gm_s_iald dL_law_484) (
    gm_cn 488 (gm_m_vcall _ _ _) (gcl_X8_first gw_354 dL_law_485) (
    gm_cn 489 (gm_m_aload _) (gm_s_aload_n dL_law_488 rfl) (
    gm_cn 490 (gm_m_aload _) (gm_s_aload_n dL_law_489 rfl) (
    gm_cn 491 (gm_m_iload _) (gm_s_iload_n dL_law_490 rfl) (
    gm_cn 492 (gm_m_push _) (gm_s_iconst dL_law_491) (
    gm_cn 493 (gm_m_op2 _) (gm_s_iadd dL_law_492) (
    gm_cn 494 gm_m_iald (gm_s_iald dL_law_493) (
    gm_cn 497 (gm_m_vcall _ _ _) (gcl_X9_first gw_355 dL_law_494) (
    gm_cn 500 (gm_m_ceq _) (gm_s_ceq (bpc := bpL_law) (b := 38) dL_law_497 rfl) (
    gm_cn 501 (gm_m_push _) (gm_s_iconst dL_law_500) (
    gm_cn 0 gm_m_zret (gm_s_zret dL_law_501 rfl 0) (
    trivial))))))))))))))))),
  gm_cn 503 (gm_m_aload _) (gm_s_aload_n dL_law_502 rfl) (
    gm_cn 506 (gm_m_vcall _ _ _) (gcl_X8_never gw_356 dL_law_503) (
    gm_cn 507 (gm_m_aload _) (gm_s_aload_n dL_law_506 rfl) (
    gm_cn 510 (gm_m_vcall _ _ _) (gcl_X9_never gw_357 dL_law_507) (
    gm_cn 513 (gm_m_ceq _) (gm_s_ceq (bpc := bpL_law) (b := 38) dL_law_510 rfl) (
    gm_cn 514 (gm_m_push _) (gm_s_iconst dL_law_513) (
    gm_cn 0 gm_m_zret (gm_s_zret dL_law_514 rfl 0) (
    trivial))))))),
  gm_cn 516 (gm_m_aload _) (gm_s_aload_n dL_law_515 rfl) (
    gm_cn 517 (gm_m_aload _) (gm_s_aload_n dL_law_516 rfl) (
    gm_cn 518 (gm_m_iload _) (gm_s_iload_n dL_law_517 rfl) (
    gm_cn 519 (gm_m_push _) (gm_s_iconst dL_law_518) (
    gm_cn 520 (gm_m_op2 _) (gm_s_iadd dL_law_519) (
    gm_cn 521 gm_m_iald (gm_s_iald dL_law_520) (
    gm_cn 524 (gm_m_vcall _ _ _) (gcl_X8_cap gw_358 dL_law_521) (
    gm_cn 525 (gm_m_aload _) (gm_s_aload_n dL_law_524 rfl) (
    gm_cn 526 (gm_m_aload _) (gm_s_aload_n dL_law_525 rfl) (
    gm_cn 527 (gm_m_iload _) (gm_s_iload_n dL_law_526 rfl) (
    gm_cn 528 (gm_m_push _) (gm_s_iconst dL_law_527) (
    gm_cn 529 (gm_m_op2 _) (gm_s_iadd dL_law_528) (
    gm_cn 530 gm_m_iald (gm_s_iald dL_law_529) (
    gm_cn 533 (gm_m_vcall _ _ _) (gcl_X9_cap gw_359 dL_law_530) (
    gm_cn 536 (gm_m_ceq _) (gm_s_ceq (bpc := bpL_law) (b := 38) dL_law_533 rfl) (
    gm_cn 537 (gm_m_push _) (gm_s_iconst dL_law_536) (
    gm_cn 0 gm_m_zret (gm_s_zret dL_law_537 rfl 0) (
    trivial))))))))))))))))),
  gm_cn 539 (gm_m_aload _) (gm_s_aload_n dL_law_538 rfl) (
    gm_cn 540 (gm_m_aload _) (gm_s_aload_n dL_law_539 rfl) (
    gm_cn 541 (gm_m_iload _) (gm_s_iload_n dL_law_540 rfl) (
    gm_cn 542 (gm_m_push _) (gm_s_iconst dL_law_541) (
    gm_cn 543 (gm_m_op2 _) (gm_s_iadd dL_law_542) (
    gm_cn 544 gm_m_iald (gm_s_iald dL_law_543) (
    gm_cn 547 (gm_m_vcall _ _ _) (gcl_X8_full gw_360 dL_law_544) (
    gm_cn 548 (gm_m_aload _) (gm_s_aload_n dL_law_547 rfl) (
    gm_cn 549 (gm_m_aload _) (gm_s_aload_n dL_law_548 rfl) (
    gm_cn 550 (gm_m_iload _) (gm_s_iload_n dL_law_549 rfl) (
    gm_cn 551 (gm_m_push _) (gm_s_iconst dL_law_550) (
    gm_cn 552 (gm_m_op2 _) (gm_s_iadd dL_law_551) (
    gm_cn 553 gm_m_iald (gm_s_iald dL_law_552) (
    gm_cn 556 (gm_m_vcall _ _ _) (gcl_X9_full gw_361 dL_law_553) (
    gm_cn 559 (gm_m_ceq _) (gm_s_ceq (bpc := bpL_law) (b := 38) dL_law_556 rfl) (
    gm_cn 560 (gm_m_push _) (gm_s_iconst dL_law_559) (
    gm_cn 0 gm_m_zret (gm_s_zret dL_law_560 rfl 0) (
    trivial))))))))))))))))),
  gm_cn 562 (gm_m_aload _) (gm_s_aload_n dL_law_561 rfl) (
    gm_cn 563 (gm_m_aload _) (gm_s_aload_n dL_law_562 rfl) (
    gm_cn 564 (gm_m_iload _) (gm_s_iload_n dL_law_563 rfl) (
    gm_cn 565 (gm_m_push _) (gm_s_iconst dL_law_564) (
    gm_cn 566 (gm_m_op2 _) (gm_s_iadd dL_law_565) (
    gm_cn 567 gm_m_iald (gm_s_iald dL_law_566) (
    gm_cn 568 (gm_m_aload _) (gm_s_aload_n dL_law_567 rfl) (
    gm_cn 569 (gm_m_iload _) (gm_s_iload_n dL_law_568 rfl) (
    gm_cn 570 (gm_m_push _) (gm_s_iconst dL_law_569) (
    gm_cn 571 (gm_m_op2 _) (gm_s_iadd dL_law_570) (
    gm_cn 572 gm_m_iald (gm_s_iald dL_law_571) (
    gm_cn 575 (gm_m_vcall _ _ _) (gcl_X8_heat gw_362 dL_law_572) (
    gm_cn 576 (gm_m_aload _) (gm_s_aload_n dL_law_575 rfl) (
    gm_cn 577 (gm_m_aload _) (gm_s_aload_n dL_law_576 rfl) (
    gm_cn 578 (gm_m_iload _) (gm_s_iload_n dL_law_577 rfl) (
    gm_cn 579 (gm_m_push _) (gm_s_iconst dL_law_578) (
    gm_cn 580 (gm_m_op2 _) (gm_s_iadd dL_law_579) (
    gm_cn 581 gm_m_iald (gm_s_iald dL_law_580) (
    gm_cn 582 (gm_m_aload _) (gm_s_aload_n dL_law_581 rfl) (
    gm_cn 583 (gm_m_iload _) (gm_s_iload_n dL_law_582 rfl) (
    gm_cn 584 (gm_m_push _) (gm_s_iconst dL_law_583) (
    gm_cn 585 (gm_m_op2 _) (gm_s_iadd dL_law_584) (
    gm_cn 586 gm_m_iald (gm_s_iald dL_law_585) (
    gm_cn 589 (gm_m_vcall _ _ _) (gcl_X9_heat gw_363 dL_law_586) (
    gm_cn 592 (gm_m_ceq _) (gm_s_ceq (bpc := bpL_law) (b := 38) dL_law_589 rfl) (
    gm_cn 593 (gm_m_push _) (gm_s_iconst dL_law_592) (
    gm_cn 0 gm_m_zret (gm_s_zret dL_law_593 rfl 0) (
    trivial))))))))))))))))))))))))))),
  gm_cn 595 (gm_m_aload _) (gm_s_aload_n dL_law_594 rfl) (
    gm_cn 596 (gm_m_aload _) (gm_s_aload_n dL_law_595 rfl) (
    gm_cn 597 (gm_m_iload _) (gm_s_iload_n dL_law_596 rfl) (
    gm_cn 598 (gm_m_push _) (gm_s_iconst dL_law_597) (
    gm_cn 599 (gm_m_op2 _) (gm_s_iadd dL_law_598) (
    gm_cn 600 gm_m_iald (gm_s_iald dL_law_599) (
    gm_cn 603 (gm_m_vcall _ _ _) (gcl_X8_big gw_364 dL_law_600) (
    gm_cn 604 (gm_m_aload _) (gm_s_aload_n dL_law_603 rfl) (
    gm_cn 605 (gm_m_aload _) (gm_s_aload_n dL_law_604 rfl) (
    gm_cn 606 (gm_m_iload _) (gm_s_iload_n dL_law_605 rfl) (
    gm_cn 607 (gm_m_push _) (gm_s_iconst dL_law_606) (
    gm_cn 608 (gm_m_op2 _) (gm_s_iadd dL_law_607) (
    gm_cn 609 gm_m_iald (gm_s_iald dL_law_608) (
    gm_cn 612 (gm_m_vcall _ _ _) (gcl_X9_big gw_365 dL_law_609) (
    gm_cn 615 (gm_m_ceq _) (gm_s_ceq (bpc := bpL_law) (b := 38) dL_law_612 rfl) (
    gm_cn 616 (gm_m_push _) (gm_s_iconst dL_law_615) (
    gm_cn 0 gm_m_zret (gm_s_zret dL_law_616 rfl 0) (
    trivial))))))))))))))))),
  gm_cn 618 (gm_m_aload _) (gm_s_aload_n dL_law_617 rfl) (
    gm_cn 619 (gm_m_aload _) (gm_s_aload_n dL_law_618 rfl) (
    gm_cn 620 (gm_m_iload _) (gm_s_iload_n dL_law_619 rfl) (
    gm_cn 621 (gm_m_push _) (gm_s_iconst dL_law_620) (
    gm_cn 622 (gm_m_op2 _) (gm_s_iadd dL_law_621) (
    gm_cn 623 gm_m_iald (gm_s_iald dL_law_622) (
    gm_cn 624 (gm_m_aload _) (gm_s_aload_n dL_law_623 rfl) (
    gm_cn 625 (gm_m_iload _) (gm_s_iload_n dL_law_624 rfl) (
    gm_cn 626 (gm_m_push _) (gm_s_iconst dL_law_625) (
    gm_cn 627 (gm_m_op2 _) (gm_s_iadd dL_law_626) (
    gm_cn 628 gm_m_iald (gm_s_iald dL_law_627) (
    gm_cn 629 (gm_m_aload _) (gm_s_aload_n dL_law_628 rfl) (
    gm_cn 630 (gm_m_iload _) (gm_s_iload_n dL_law_629 rfl) (
    gm_cn 631 (gm_m_push _) (gm_s_iconst dL_law_630) (
    gm_cn 632 (gm_m_op2 _) (gm_s_iadd dL_law_631) (
    gm_cn 633 gm_m_iald (gm_s_iald dL_law_632) (
    gm_cn 636 (gm_m_vcall _ _ _) (gcl_X8_gives gw_366 dL_law_633) (
    gm_cn 637 (gm_m_aload _) (gm_s_aload_n dL_law_636 rfl) (
    gm_cn 638 (gm_m_aload _) (gm_s_aload_n dL_law_637 rfl) (
    gm_cn 639 (gm_m_iload _) (gm_s_iload_n dL_law_638 rfl) (
    gm_cn 640 (gm_m_push _) (gm_s_iconst dL_law_639) (
    gm_cn 641 (gm_m_op2 _) (gm_s_iadd dL_law_640) (
    gm_cn 642 gm_m_iald (gm_s_iald dL_law_641) (
    gm_cn 643 (gm_m_aload _) (gm_s_aload_n dL_law_642 rfl) (
    gm_cn 644 (gm_m_iload _) (gm_s_iload_n dL_law_643 rfl) (
    gm_cn 645 (gm_m_push _) (gm_s_iconst dL_law_644) (
    gm_cn 646 (gm_m_op2 _) (gm_s_iadd dL_law_645) (
    gm_cn 647 gm_m_iald (gm_s_iald dL_law_646) (
    gm_cn 648 (gm_m_aload _) (gm_s_aload_n dL_law_647 rfl) (
    gm_cn 649 (gm_m_iload _) (gm_s_iload_n dL_law_648 rfl) (
    gm_cn 650 (gm_m_push _) (gm_s_iconst dL_law_649) (
    gm_cn 651 (gm_m_op2 _) (gm_s_iadd dL_law_650) (
    gm_cn 652 gm_m_iald (gm_s_iald dL_law_651) (
    gm_cn 655 (gm_m_vcall _ _ _) (gcl_X9_gives gw_367 dL_law_652) (
    gm_cn 658 (gm_m_ceq _) (gm_s_ceq (bpc := bpL_law) (b := 38) dL_law_655 rfl) (
    gm_cn 659 (gm_m_push _) (gm_s_iconst dL_law_658) (
    gm_cn 0 gm_m_zret (gm_s_zret dL_law_659 rfl 0) (
    trivial))))))))))))))))))))))))))))))))))))),
  gm_cn 661 (gm_m_aload _) (gm_s_aload_n dL_law_660 rfl) (
    gm_cn 662 (gm_m_aload _) (gm_s_aload_n dL_law_661 rfl) (
    gm_cn 663 (gm_m_iload _) (gm_s_iload_n dL_law_662 rfl) (
    gm_cn 664 (gm_m_push _) (gm_s_iconst dL_law_663) (
    gm_cn 665 (gm_m_op2 _) (gm_s_iadd dL_law_664) (
    gm_cn 666 gm_m_iald (gm_s_iald dL_law_665) (
    gm_cn 667 (gm_m_aload _) (gm_s_aload_n dL_law_666 rfl) (
    gm_cn 668 (gm_m_iload _) (gm_s_iload_n dL_law_667 rfl) (
    gm_cn 669 (gm_m_push _) (gm_s_iconst dL_law_668) (
    gm_cn 670 (gm_m_op2 _) (gm_s_iadd dL_law_669) (
    gm_cn 671 gm_m_iald (gm_s_iald dL_law_670) (
    gm_cn 674 (gm_m_vcall _ _ _) (gcl_X8_turn gw_368 dL_law_671) (
    gm_cn 675 (gm_m_aload _) (gm_s_aload_n dL_law_674 rfl) (
    gm_cn 676 (gm_m_aload _) (gm_s_aload_n dL_law_675 rfl) (
    gm_cn 677 (gm_m_iload _) (gm_s_iload_n dL_law_676 rfl) (
    gm_cn 678 (gm_m_push _) (gm_s_iconst dL_law_677) (
    gm_cn 679 (gm_m_op2 _) (gm_s_iadd dL_law_678) (
    gm_cn 680 gm_m_iald (gm_s_iald dL_law_679) (
    gm_cn 681 (gm_m_aload _) (gm_s_aload_n dL_law_680 rfl) (
    gm_cn 682 (gm_m_iload _) (gm_s_iload_n dL_law_681 rfl) (
    gm_cn 683 (gm_m_push _) (gm_s_iconst dL_law_682) (
    gm_cn 684 (gm_m_op2 _) (gm_s_iadd dL_law_683) (
    gm_cn 685 gm_m_iald (gm_s_iald dL_law_684) (
    gm_cn 688 (gm_m_vcall _ _ _) (gcl_X9_turn gw_369 dL_law_685) (
    gm_cn 691 (gm_m_ceq _) (gm_s_ceq (bpc := bpL_law) (b := 38) dL_law_688 rfl) (
    gm_cn 692 (gm_m_push _) (gm_s_iconst dL_law_691) (
    gm_cn 0 gm_m_zret (gm_s_zret dL_law_692 rfl 0) (
    trivial))))))))))))))))))))))))))),
  gm_cn 694 (gm_m_aload _) (gm_s_aload_n dL_law_693 rfl) (
    gm_cn 695 (gm_m_aload _) (gm_s_aload_n dL_law_694 rfl) (
    gm_cn 696 (gm_m_iload _) (gm_s_iload_n dL_law_695 rfl) (
    gm_cn 697 (gm_m_push _) (gm_s_iconst dL_law_696) (
    gm_cn 698 (gm_m_op2 _) (gm_s_iadd dL_law_697) (
    gm_cn 699 gm_m_iald (gm_s_iald dL_law_698) (
    gm_cn 700 (gm_m_aload _) (gm_s_aload_n dL_law_699 rfl) (
    gm_cn 701 (gm_m_iload _) (gm_s_iload_n dL_law_700 rfl) (
    gm_cn 702 (gm_m_push _) (gm_s_iconst dL_law_701) (
    gm_cn 703 (gm_m_op2 _) (gm_s_iadd dL_law_702) (
    gm_cn 704 gm_m_iald (gm_s_iald dL_law_703) (
    gm_cn 707 (gm_m_vcall _ _ _) (gcl_X8_alike gw_370 dL_law_704) (
    gm_cn 708 (gm_m_aload _) (gm_s_aload_n dL_law_707 rfl) (
    gm_cn 709 (gm_m_aload _) (gm_s_aload_n dL_law_708 rfl) (
    gm_cn 710 (gm_m_iload _) (gm_s_iload_n dL_law_709 rfl) (
    gm_cn 711 (gm_m_push _) (gm_s_iconst dL_law_710) (
    gm_cn 712 (gm_m_op2 _) (gm_s_iadd dL_law_711) (
    gm_cn 713 gm_m_iald (gm_s_iald dL_law_712) (
    gm_cn 714 (gm_m_aload _) (gm_s_aload_n dL_law_713 rfl) (
    gm_cn 715 (gm_m_iload _) (gm_s_iload_n dL_law_714 rfl) (
    gm_cn 716 (gm_m_push _) (gm_s_iconst dL_law_715) (
    gm_cn 717 (gm_m_op2 _) (gm_s_iadd dL_law_716) (
    gm_cn 718 gm_m_iald (gm_s_iald dL_law_717) (
    gm_cn 721 (gm_m_vcall _ _ _) (gcl_X9_alike gw_371 dL_law_718) (
    gm_cn 724 (gm_m_ceq _) (gm_s_ceq (bpc := bpL_law) (b := 38) dL_law_721 rfl) (
    gm_cn 725 (gm_m_push _) (gm_s_iconst dL_law_724) (
    gm_cn 0 gm_m_zret (gm_s_zret dL_law_725 rfl 0) (
    trivial))))))))))))))))))))))))))),
  gm_cn 727 (gm_m_aload _) (gm_s_aload_n dL_law_726 rfl) (
    gm_cn 728 (gm_m_aload _) (gm_s_aload_n dL_law_727 rfl) (
    gm_cn 729 (gm_m_iload _) (gm_s_iload_n dL_law_728 rfl) (
    gm_cn 730 (gm_m_push _) (gm_s_iconst dL_law_729) (
    gm_cn 731 (gm_m_op2 _) (gm_s_iadd dL_law_730) (
    gm_cn 732 gm_m_iald (gm_s_iald dL_law_731) (
    gm_cn 733 (gm_m_aload _) (gm_s_aload_n dL_law_732 rfl) (
    gm_cn 734 (gm_m_iload _) (gm_s_iload_n dL_law_733 rfl) (
    gm_cn 735 (gm_m_push _) (gm_s_iconst dL_law_734) (
    gm_cn 736 (gm_m_op2 _) (gm_s_iadd dL_law_735) (
    gm_cn 737 gm_m_iald (gm_s_iald dL_law_736) (
    gm_cn 738 (gm_m_aload _) (gm_s_aload_n dL_law_737 rfl) (
    gm_cn 739 (gm_m_iload _) (gm_s_iload_n dL_law_738 rfl) (
    gm_cn 740 (gm_m_push _) (gm_s_iconst dL_law_739) (
    gm_cn 741 (gm_m_op2 _) (gm_s_iadd dL_law_740) (
    gm_cn 742 gm_m_iald (gm_s_iald dL_law_741) (
    gm_cn 745 (gm_m_vcall _ _ _) (gcl_X8_see gw_372 dL_law_742) (
    gm_cn 746 (gm_m_aload _) (gm_s_aload_n dL_law_745 rfl) (
    gm_cn 747 (gm_m_aload _) (gm_s_aload_n dL_law_746 rfl) (
    gm_cn 748 (gm_m_iload _) (gm_s_iload_n dL_law_747 rfl) (
    gm_cn 749 (gm_m_push _) (gm_s_iconst dL_law_748) (
    gm_cn 750 (gm_m_op2 _) (gm_s_iadd dL_law_749) (
    gm_cn 751 gm_m_iald (gm_s_iald dL_law_750) (
    gm_cn 752 (gm_m_aload _) (gm_s_aload_n dL_law_751 rfl) (
    gm_cn 753 (gm_m_iload _) (gm_s_iload_n dL_law_752 rfl) (
    gm_cn 754 (gm_m_push _) (gm_s_iconst dL_law_753) (
    gm_cn 755 (gm_m_op2 _) (gm_s_iadd dL_law_754) (
    gm_cn 756 gm_m_iald (gm_s_iald dL_law_755) (
    gm_cn 757 (gm_m_aload _) (gm_s_aload_n dL_law_756 rfl) (
    gm_cn 758 (gm_m_iload _) (gm_s_iload_n dL_law_757 rfl) (
    gm_cn 759 (gm_m_push _) (gm_s_iconst dL_law_758) (
    gm_cn 760 (gm_m_op2 _) (gm_s_iadd dL_law_759) (
    gm_cn 761 gm_m_iald (gm_s_iald dL_law_760) (
    gm_cn 764 (gm_m_vcall _ _ _) (gcl_X9_see gw_373 dL_law_761) (
    gm_cn 767 (gm_m_ceq _) (gm_s_ceq (bpc := bpL_law) (b := 38) dL_law_764 rfl) (
    gm_cn 768 (gm_m_push _) (gm_s_iconst dL_law_767) (
    gm_cn 0 gm_m_zret (gm_s_zret dL_law_768 rfl 0) (
    trivial))))))))))))))))))))))))))))))))))))),
  gm_cn 770 (gm_m_aload _) (gm_s_aload_n dL_law_769 rfl) (
    gm_cn 771 (gm_m_aload _) (gm_s_aload_n dL_law_770 rfl) (
    gm_cn 772 (gm_m_iload _) (gm_s_iload_n dL_law_771 rfl) (
    gm_cn 773 (gm_m_push _) (gm_s_iconst dL_law_772) (
    gm_cn 774 (gm_m_op2 _) (gm_s_iadd dL_law_773) (
    gm_cn 775 gm_m_iald (gm_s_iald dL_law_774) (
    gm_cn 778 (gm_m_vcall _ _ _) (gcl_X8_leaks gw_374 dL_law_775) (
    gm_cn 779 (gm_m_aload _) (gm_s_aload_n dL_law_778 rfl) (
    gm_cn 780 (gm_m_aload _) (gm_s_aload_n dL_law_779 rfl) (
    gm_cn 781 (gm_m_iload _) (gm_s_iload_n dL_law_780 rfl) (
    gm_cn 782 (gm_m_push _) (gm_s_iconst dL_law_781) (
    gm_cn 783 (gm_m_op2 _) (gm_s_iadd dL_law_782) (
    gm_cn 784 gm_m_iald (gm_s_iald dL_law_783) (
    gm_cn 787 (gm_m_vcall _ _ _) (gcl_X9_leaks gw_375 dL_law_784) (
    gm_cn 790 (gm_m_ceq _) (gm_s_ceq (bpc := bpL_law) (b := 38) dL_law_787 rfl) (
    gm_cn 791 (gm_m_push _) (gm_s_iconst dL_law_790) (
    gm_cn 0 gm_m_zret (gm_s_zret dL_law_791 rfl 0) (
    trivial))))))))))))))))),
  gm_cn 793 (gm_m_aload _) (gm_s_aload_n dL_law_792 rfl) (
    gm_cn 794 (gm_m_aload _) (gm_s_aload_n dL_law_793 rfl) (
    gm_cn 795 (gm_m_iload _) (gm_s_iload_n dL_law_794 rfl) (
    gm_cn 796 (gm_m_push _) (gm_s_iconst dL_law_795) (
    gm_cn 797 (gm_m_op2 _) (gm_s_iadd dL_law_796) (
    gm_cn 798 gm_m_iald (gm_s_iald dL_law_797) (
    gm_cn 801 (gm_m_vcall _ _ _) (gcl_X8_dry gw_376 dL_law_798) (
    gm_cn 802 (gm_m_aload _) (gm_s_aload_n dL_law_801 rfl) (
    gm_cn 803 (gm_m_aload _) (gm_s_aload_n dL_law_802 rfl) (
    gm_cn 804 (gm_m_iload _) (gm_s_iload_n dL_law_803 rfl) (
    gm_cn 805 (gm_m_push _) (gm_s_iconst dL_law_804) (
    gm_cn 806 (gm_m_op2 _) (gm_s_iadd dL_law_805) (
    gm_cn 807 gm_m_iald (gm_s_iald dL_law_806) (
    gm_cn 810 (gm_m_vcall _ _ _) (gcl_X9_dry gw_377 dL_law_807) (
    gm_cn 813 (gm_m_ceq _) (gm_s_ceq (bpc := bpL_law) (b := 38) dL_law_810 rfl) (
    gm_cn 814 (gm_m_push _) (gm_s_iconst dL_law_813) (
    gm_cn 0 gm_m_zret (gm_s_zret dL_law_814 rfl 0) (
    trivial))))))))))))))))),
  gm_cn 816 (gm_m_aload _) (gm_s_aload_n dL_law_815 rfl) (
    gm_cn 817 (gm_m_aload _) (gm_s_aload_n dL_law_816 rfl) (
    gm_cn 818 (gm_m_iload _) (gm_s_iload_n dL_law_817 rfl) (
    gm_cn 819 (gm_m_push _) (gm_s_iconst dL_law_818) (
    gm_cn 820 (gm_m_op2 _) (gm_s_iadd dL_law_819) (
    gm_cn 821 gm_m_iald (gm_s_iald dL_law_820) (
    gm_cn 822 (gm_m_aload _) (gm_s_aload_n dL_law_821 rfl) (
    gm_cn 823 (gm_m_iload _) (gm_s_iload_n dL_law_822 rfl) (
    gm_cn 824 (gm_m_push _) (gm_s_iconst dL_law_823) (
    gm_cn 825 (gm_m_op2 _) (gm_s_iadd dL_law_824) (
    gm_cn 826 gm_m_iald (gm_s_iald dL_law_825) (
    gm_cn 829 (gm_m_vcall _ _ _) (gcl_X8_odds gw_378 dL_law_826) (
    gm_cn 830 (gm_m_aload _) (gm_s_aload_n dL_law_829 rfl) (
    gm_cn 831 (gm_m_aload _) (gm_s_aload_n dL_law_830 rfl) (
    gm_cn 832 (gm_m_iload _) (gm_s_iload_n dL_law_831 rfl) (
    gm_cn 833 (gm_m_push _) (gm_s_iconst dL_law_832) (
    gm_cn 834 (gm_m_op2 _) (gm_s_iadd dL_law_833) (
    gm_cn 835 gm_m_iald (gm_s_iald dL_law_834) (
    gm_cn 836 (gm_m_aload _) (gm_s_aload_n dL_law_835 rfl) (
    gm_cn 837 (gm_m_iload _) (gm_s_iload_n dL_law_836 rfl) (
    gm_cn 838 (gm_m_push _) (gm_s_iconst dL_law_837) (
    gm_cn 839 (gm_m_op2 _) (gm_s_iadd dL_law_838) (
    gm_cn 840 gm_m_iald (gm_s_iald dL_law_839) (
    gm_cn 843 (gm_m_vcall _ _ _) (gcl_X9_odds gw_379 dL_law_840) (
    gm_cn 844 gm_m_lcmp (gm_s_lcmp dL_law_843) (
    gm_cn 847 (gm_m_ifeq _) (gm_s_ifeq (bpc := bpL_law) (b := 38) dL_law_844 rfl) (
    gm_cn 848 (gm_m_push _) (gm_s_iconst dL_law_847) (
    gm_cn 0 gm_m_zret (gm_s_zret dL_law_848 rfl 0) (
    trivial)))))))))))))))))))))))))))),
  gm_cn 850 (gm_m_aload _) (gm_s_aload_n dL_law_849 rfl) (
    gm_cn 851 (gm_m_aload _) (gm_s_aload_n dL_law_850 rfl) (
    gm_cn 852 (gm_m_iload _) (gm_s_iload_n dL_law_851 rfl) (
    gm_cn 853 (gm_m_push _) (gm_s_iconst dL_law_852) (
    gm_cn 854 (gm_m_op2 _) (gm_s_iadd dL_law_853) (
    gm_cn 855 gm_m_iald (gm_s_iald dL_law_854) (
    gm_cn 856 (gm_m_aload _) (gm_s_aload_n dL_law_855 rfl) (
    gm_cn 857 (gm_m_iload _) (gm_s_iload_n dL_law_856 rfl) (
    gm_cn 858 (gm_m_push _) (gm_s_iconst dL_law_857) (
    gm_cn 859 (gm_m_op2 _) (gm_s_iadd dL_law_858) (
    gm_cn 860 gm_m_iald (gm_s_iald dL_law_859) (
    gm_cn 863 (gm_m_vcall _ _ _) (gcl_X8_mean gw_380 dL_law_860) (
    gm_cn 864 (gm_m_aload _) (gm_s_aload_n dL_law_863 rfl) (
    gm_cn 865 (gm_m_aload _) (gm_s_aload_n dL_law_864 rfl) (
    gm_cn 866 (gm_m_iload _) (gm_s_iload_n dL_law_865 rfl) (
    gm_cn 867 (gm_m_push _) (gm_s_iconst dL_law_866) (
    gm_cn 868 (gm_m_op2 _) (gm_s_iadd dL_law_867) (
    gm_cn 869 gm_m_iald (gm_s_iald dL_law_868) (
    gm_cn 870 (gm_m_aload _) (gm_s_aload_n dL_law_869 rfl) (
    gm_cn 871 (gm_m_iload _) (gm_s_iload_n dL_law_870 rfl) (
    gm_cn 872 (gm_m_push _) (gm_s_iconst dL_law_871) (
    gm_cn 873 (gm_m_op2 _) (gm_s_iadd dL_law_872) (
    gm_cn 874 gm_m_iald (gm_s_iald dL_law_873) (
    gm_cn 877 (gm_m_vcall _ _ _) (gcl_X9_mean gw_381 dL_law_874) (
    gm_cn 878 gm_m_lcmp (gm_s_lcmp dL_law_877) (
    gm_cn 881 (gm_m_ifeq _) (gm_s_ifeq (bpc := bpL_law) (b := 38) dL_law_878 rfl) (
    gm_cn 882 (gm_m_push _) (gm_s_iconst dL_law_881) (
    gm_cn 0 gm_m_zret (gm_s_zret dL_law_882 rfl 0) (
    trivial)))))))))))))))))))))))))))),
  gm_cn 884 (gm_m_aload _) (gm_s_aload_n dL_law_883 rfl) (
    gm_cn 885 (gm_m_aload _) (gm_s_aload_n dL_law_884 rfl) (
    gm_cn 886 (gm_m_iload _) (gm_s_iload_n dL_law_885 rfl) (
    gm_cn 887 (gm_m_push _) (gm_s_iconst dL_law_886) (
    gm_cn 888 (gm_m_op2 _) (gm_s_iadd dL_law_887) (
    gm_cn 889 gm_m_iald (gm_s_iald dL_law_888) (
    gm_cn 892 (gm_m_vcall _ _ _) (gcl_X8_book gw_382 dL_law_889) (
    gm_cn 893 (gm_m_aload _) (gm_s_aload_n dL_law_892 rfl) (
    gm_cn 894 (gm_m_aload _) (gm_s_aload_n dL_law_893 rfl) (
    gm_cn 895 (gm_m_iload _) (gm_s_iload_n dL_law_894 rfl) (
    gm_cn 896 (gm_m_push _) (gm_s_iconst dL_law_895) (
    gm_cn 897 (gm_m_op2 _) (gm_s_iadd dL_law_896) (
    gm_cn 898 gm_m_iald (gm_s_iald dL_law_897) (
    gm_cn 901 (gm_m_vcall _ _ _) (gcl_X9_book gw_383 dL_law_898) (
    gm_cn 904 (gm_m_ceq _) (gm_s_ceq (bpc := bpL_law) (b := 38) dL_law_901 rfl) (
    gm_cn 905 (gm_m_push _) (gm_s_iconst dL_law_904) (
    gm_cn 0 gm_m_zret (gm_s_zret dL_law_905 rfl 0) (
    trivial))))))))))))))))),
  gm_cn 907 (gm_m_aload _) (gm_s_aload_n dL_law_906 rfl) (
    gm_cn 910 (gm_m_vcall _ _ _) (gcl_X8_looked gw_384 dL_law_907) (
    gm_cn 911 (gm_m_aload _) (gm_s_aload_n dL_law_910 rfl) (
    gm_cn 914 (gm_m_vcall _ _ _) (gcl_X9_looked gw_385 dL_law_911) (
    gm_cn 917 (gm_m_ceq _) (gm_s_ceq (bpc := bpL_law) (b := 38) dL_law_914 rfl) (
    gm_cn 918 (gm_m_push _) (gm_s_iconst dL_law_917) (
    gm_cn 0 gm_m_zret (gm_s_zret dL_law_918 rfl 0) (
    trivial))))))),
  gm_cn 920 (gm_m_aload _) (gm_s_aload_n dL_law_919 rfl) (
    gm_cn 921 (gm_m_aload _) (gm_s_aload_n dL_law_920 rfl) (
    gm_cn 922 (gm_m_iload _) (gm_s_iload_n dL_law_921 rfl) (
    gm_cn 923 (gm_m_push _) (gm_s_iconst dL_law_922) (
    gm_cn 924 (gm_m_op2 _) (gm_s_iadd dL_law_923) (
    gm_cn 925 gm_m_iald (gm_s_iald dL_law_924) (
    gm_cn 926 (gm_m_aload _) (gm_s_aload_n dL_law_925 rfl) (
    gm_cn 927 (gm_m_iload _) (gm_s_iload_n dL_law_926 rfl) (
    gm_cn 928 (gm_m_push _) (gm_s_iconst dL_law_927) (
    gm_cn 929 (gm_m_op2 _) (gm_s_iadd dL_law_928) (
    gm_cn 930 gm_m_iald (gm_s_iald dL_law_929) (
    gm_cn 933 (gm_m_vcall _ _ _) (gcl_X8_judge gw_386 dL_law_930) (
    gm_cn 934 (gm_m_aload _) (gm_s_aload_n dL_law_933 rfl) (
    gm_cn 935 (gm_m_aload _) (gm_s_aload_n dL_law_934 rfl) (
    gm_cn 936 (gm_m_iload _) (gm_s_iload_n dL_law_935 rfl) (
    gm_cn 937 (gm_m_push _) (gm_s_iconst dL_law_936) (
    gm_cn 938 (gm_m_op2 _) (gm_s_iadd dL_law_937) (
    gm_cn 939 gm_m_iald (gm_s_iald dL_law_938) (
    gm_cn 940 (gm_m_aload _) (gm_s_aload_n dL_law_939 rfl) (
    gm_cn 941 (gm_m_iload _) (gm_s_iload_n dL_law_940 rfl) (
    gm_cn 942 (gm_m_push _) (gm_s_iconst dL_law_941) (
    gm_cn 943 (gm_m_op2 _) (gm_s_iadd dL_law_942) (
    gm_cn 944 gm_m_iald (gm_s_iald dL_law_943) (
    gm_cn 947 (gm_m_vcall _ _ _) (gcl_X9_judge gw_387 dL_law_944) (
    gm_cn 950 (gm_m_ceq _) (gm_s_ceq (bpc := bpL_law) (b := 38) dL_law_947 rfl) (
    gm_cn 951 (gm_m_push _) (gm_s_iconst dL_law_950) (
    gm_cn 0 gm_m_zret (gm_s_zret dL_law_951 rfl 0) (
    trivial))))))))))))))))))))))))))),
  gm_cn 953 (gm_m_aload _) (gm_s_aload_n dL_law_952 rfl) (
    gm_cn 956 (gm_m_vcall _ _ _) (gcl_X8_image gw_388 dL_law_953) (
    gm_cn 957 (gm_m_aload _) (gm_s_aload_n dL_law_956 rfl) (
    gm_cn 960 (gm_m_vcall _ _ _) (gcl_X9_image gw_389 dL_law_957) (
    gm_cn 963 (gm_m_ceq _) (gm_s_ceq (bpc := bpL_law) (b := 38) dL_law_960 rfl) (
    gm_cn 964 (gm_m_push _) (gm_s_iconst dL_law_963) (
    gm_cn 0 gm_m_zret (gm_s_zret dL_law_964 rfl 0) (
    trivial))))))),
  gm_cn 966 (gm_m_aload _) (gm_s_aload_n dL_law_965 rfl) (
    gm_cn 969 (gm_m_vcall _ _ _) (gcl_X8_undo gw_390 dL_law_966) (
    gm_cn 970 (gm_m_aload _) (gm_s_aload_n dL_law_969 rfl) (
    gm_cn 973 (gm_m_vcall _ _ _) (gcl_X9_undo gw_391 dL_law_970) (
    gm_cn 976 (gm_m_ceq _) (gm_s_ceq (bpc := bpL_law) (b := 38) dL_law_973 rfl) (
    gm_cn 977 (gm_m_push _) (gm_s_iconst dL_law_976) (
    gm_cn 0 gm_m_zret (gm_s_zret dL_law_977 rfl 0) (
    trivial))))))),
  gm_cn 979 (gm_m_aload _) (gm_s_aload_n dL_law_978 rfl) (
    gm_cn 980 (gm_m_aload _) (gm_s_aload_n dL_law_979 rfl) (
    gm_cn 981 (gm_m_iload _) (gm_s_iload_n dL_law_980 rfl) (
    gm_cn 982 (gm_m_push _) (gm_s_iconst dL_law_981) (
    gm_cn 983 (gm_m_op2 _) (gm_s_iadd dL_law_982) (
    gm_cn 984 gm_m_iald (gm_s_iald dL_law_983) (
    gm_cn 985 (gm_m_aload _) (gm_s_aload_n dL_law_984 rfl) (
    gm_cn 986 (gm_m_iload _) (gm_s_iload_n dL_law_985 rfl) (
    gm_cn 987 (gm_m_push _) (gm_s_iconst dL_law_986) (
    gm_cn 988 (gm_m_op2 _) (gm_s_iadd dL_law_987) (
    gm_cn 989 gm_m_iald (gm_s_iald dL_law_988) (
    gm_cn 990 (gm_m_aload _) (gm_s_aload_n dL_law_989 rfl) (
    gm_cn 991 (gm_m_iload _) (gm_s_iload_n dL_law_990 rfl) (
    gm_cn 992 (gm_m_push _) (gm_s_iconst dL_law_991) (
    gm_cn 993 (gm_m_op2 _) (gm_s_iadd dL_law_992) (
    gm_cn 994 gm_m_iald (gm_s_iald dL_law_993) (
    gm_cn 997 (gm_m_vcall _ _ _) (gcl_X8_act gw_392 dL_law_994) (
    gm_cn 998 (gm_m_aload _) (gm_s_aload_n dL_law_997 rfl) (
    gm_cn 999 (gm_m_aload _) (gm_s_aload_n dL_law_998 rfl) (
    gm_cn 1000 (gm_m_iload _) (gm_s_iload_n dL_law_999 rfl) (
    gm_cn 1001 (gm_m_push _) (gm_s_iconst dL_law_1000) (
    gm_cn 1002 (gm_m_op2 _) (gm_s_iadd dL_law_1001) (
    gm_cn 1003 gm_m_iald (gm_s_iald dL_law_1002) (
    gm_cn 1004 (gm_m_aload _) (gm_s_aload_n dL_law_1003 rfl) (
    gm_cn 1005 (gm_m_iload _) (gm_s_iload_n dL_law_1004 rfl) (
    gm_cn 1006 (gm_m_push _) (gm_s_iconst dL_law_1005) (
    gm_cn 1007 (gm_m_op2 _) (gm_s_iadd dL_law_1006) (
    gm_cn 1008 gm_m_iald (gm_s_iald dL_law_1007) (
    gm_cn 1009 (gm_m_aload _) (gm_s_aload_n dL_law_1008 rfl) (
    gm_cn 1010 (gm_m_iload _) (gm_s_iload_n dL_law_1009 rfl) (
    gm_cn 1011 (gm_m_push _) (gm_s_iconst dL_law_1010) (
    gm_cn 1012 (gm_m_op2 _) (gm_s_iadd dL_law_1011) (
    gm_cn 1013 gm_m_iald (gm_s_iald dL_law_1012) (
    gm_cn 1016 (gm_m_vcall _ _ _) (gcl_X9_act gw_393 dL_law_1013) (
    gm_cn 1019 (gm_m_ceq _) (gm_s_ceq (bpc := bpL_law) (b := 38) dL_law_1016 rfl) (
    gm_cn 1020 (gm_m_push _) (gm_s_iconst dL_law_1019) (
    gm_cn 0 gm_m_zret (gm_s_zret dL_law_1020 rfl 0) (
    trivial))))))))))))))))))))))))))))))))))))),
  gm_cn 1022 (gm_m_aload _) (gm_s_aload_n dL_law_1021 rfl) (
    gm_cn 1023 (gm_m_aload _) (gm_s_aload_n dL_law_1022 rfl) (
    gm_cn 1024 (gm_m_iload _) (gm_s_iload_n dL_law_1023 rfl) (
    gm_cn 1025 (gm_m_push _) (gm_s_iconst dL_law_1024) (
    gm_cn 1026 (gm_m_op2 _) (gm_s_iadd dL_law_1025) (
    gm_cn 1027 gm_m_iald (gm_s_iald dL_law_1026) (
    gm_cn 1030 (gm_m_vcall _ _ _) (gcl_X8_trace gw_394 dL_law_1027) (
    gm_cn 1031 (gm_m_aload _) (gm_s_aload_n dL_law_1030 rfl) (
    gm_cn 1032 (gm_m_aload _) (gm_s_aload_n dL_law_1031 rfl) (
    gm_cn 1033 (gm_m_iload _) (gm_s_iload_n dL_law_1032 rfl) (
    gm_cn 1034 (gm_m_push _) (gm_s_iconst dL_law_1033) (
    gm_cn 1035 (gm_m_op2 _) (gm_s_iadd dL_law_1034) (
    gm_cn 1036 gm_m_iald (gm_s_iald dL_law_1035) (
    gm_cn 1039 (gm_m_vcall _ _ _) (gcl_X9_trace gw_395 dL_law_1036) (
    gm_cn 1042 (gm_m_ceq _) (gm_s_ceq (bpc := bpL_law) (b := 38) dL_law_1039 rfl) (
    gm_cn 1043 (gm_m_push _) (gm_s_iconst dL_law_1042) (
    gm_cn 0 gm_m_zret (gm_s_zret dL_law_1043 rfl 0) (
    trivial))))))))))))))))),
  gm_cn 1045 (gm_m_aload _) (gm_s_aload_n dL_law_1044 rfl) (
    gm_cn 1046 (gm_m_aload _) (gm_s_aload_n dL_law_1045 rfl) (
    gm_cn 1047 (gm_m_iload _) (gm_s_iload_n dL_law_1046 rfl) (
    gm_cn 1048 (gm_m_push _) (gm_s_iconst dL_law_1047) (
    gm_cn 1049 (gm_m_op2 _) (gm_s_iadd dL_law_1048) (
    gm_cn 1050 gm_m_iald (gm_s_iald dL_law_1049) (
    gm_cn 1051 (gm_m_aload _) (gm_s_aload_n dL_law_1050 rfl) (
    gm_cn 1052 (gm_m_iload _) (gm_s_iload_n dL_law_1051 rfl) (
    gm_cn 1053 (gm_m_push _) (gm_s_iconst dL_law_1052) (
    gm_cn 1054 (gm_m_op2 _) (gm_s_iadd dL_law_1053) (
    gm_cn 1055 gm_m_iald (gm_s_iald dL_law_1054) (
    gm_cn 1058 (gm_m_vcall _ _ _) (gcl_X8_taken gw_396 dL_law_1055) (
    gm_cn 1059 (gm_m_aload _) (gm_s_aload_n dL_law_1058 rfl) (
    gm_cn 1060 (gm_m_aload _) (gm_s_aload_n dL_law_1059 rfl) (
    gm_cn 1061 (gm_m_iload _) (gm_s_iload_n dL_law_1060 rfl) (
    gm_cn 1062 (gm_m_push _) (gm_s_iconst dL_law_1061) (
    gm_cn 1063 (gm_m_op2 _) (gm_s_iadd dL_law_1062) (
    gm_cn 1064 gm_m_iald (gm_s_iald dL_law_1063) (
    gm_cn 1065 (gm_m_aload _) (gm_s_aload_n dL_law_1064 rfl) (
    gm_cn 1066 (gm_m_iload _) (gm_s_iload_n dL_law_1065 rfl) (
    gm_cn 1067 (gm_m_push _) (gm_s_iconst dL_law_1066) (
    gm_cn 1068 (gm_m_op2 _) (gm_s_iadd dL_law_1067) (
    gm_cn 1069 gm_m_iald (gm_s_iald dL_law_1068) (
    gm_cn 1072 (gm_m_vcall _ _ _) (gcl_X9_taken gw_397 dL_law_1069) (
    gm_cn 1075 (gm_m_ceq _) (gm_s_ceq (bpc := bpL_law) (b := 38) dL_law_1072 rfl) (
    gm_cn 1076 (gm_m_push _) (gm_s_iconst dL_law_1075) (
    gm_cn 0 gm_m_zret (gm_s_zret dL_law_1076 rfl 0) (
    trivial))))))))))))))))))))))))))),
  gm_cn 1078 (gm_m_aload _) (gm_s_aload_n dL_law_1077 rfl) (
    gm_cn 1079 (gm_m_aload _) (gm_s_aload_n dL_law_1078 rfl) (
    gm_cn 1080 (gm_m_iload _) (gm_s_iload_n dL_law_1079 rfl) (
    gm_cn 1081 (gm_m_push _) (gm_s_iconst dL_law_1080) (
    gm_cn 1082 (gm_m_op2 _) (gm_s_iadd dL_law_1081) (
    gm_cn 1083 gm_m_iald (gm_s_iald dL_law_1082) (
    gm_cn 1086 (gm_m_vcall _ _ _) (gcl_X8_count gw_398 dL_law_1083) (
    gm_cn 1087 (gm_m_aload _) (gm_s_aload_n dL_law_1086 rfl) (
    gm_cn 1088 (gm_m_aload _) (gm_s_aload_n dL_law_1087 rfl) (
    gm_cn 1089 (gm_m_iload _) (gm_s_iload_n dL_law_1088 rfl) (
    gm_cn 1090 (gm_m_push _) (gm_s_iconst dL_law_1089) (
    gm_cn 1091 (gm_m_op2 _) (gm_s_iadd dL_law_1090) (
    gm_cn 1092 gm_m_iald (gm_s_iald dL_law_1091) (
    gm_cn 1095 (gm_m_vcall _ _ _) (gcl_X9_count gw_399 dL_law_1092) (
    gm_cn 1098 (gm_m_ceq _) (gm_s_ceq (bpc := bpL_law) (b := 38) dL_law_1095 rfl) (
    gm_cn 1099 (gm_m_push _) (gm_s_iconst dL_law_1098) (
    gm_cn 0 gm_m_zret (gm_s_zret dL_law_1099 rfl 0) (
    trivial))))))))))))))))),
  gm_cn 1101 (gm_m_aload _) (gm_s_aload_n dL_law_1100 rfl) (
    gm_cn 1102 (gm_m_aload _) (gm_s_aload_n dL_law_1101 rfl) (
    gm_cn 1103 (gm_m_iload _) (gm_s_iload_n dL_law_1102 rfl) (
    gm_cn 1104 (gm_m_push _) (gm_s_iconst dL_law_1103) (
    gm_cn 1105 (gm_m_op2 _) (gm_s_iadd dL_law_1104) (
    gm_cn 1106 gm_m_iald (gm_s_iald dL_law_1105) (
    gm_cn 1107 (gm_m_aload _) (gm_s_aload_n dL_law_1106 rfl) (
    gm_cn 1108 (gm_m_iload _) (gm_s_iload_n dL_law_1107 rfl) (
    gm_cn 1109 (gm_m_push _) (gm_s_iconst dL_law_1108) (
    gm_cn 1110 (gm_m_op2 _) (gm_s_iadd dL_law_1109) (
    gm_cn 1111 gm_m_iald (gm_s_iald dL_law_1110) (
    gm_cn 1112 (gm_m_aload _) (gm_s_aload_n dL_law_1111 rfl) (
    gm_cn 1113 (gm_m_iload _) (gm_s_iload_n dL_law_1112 rfl) (
    gm_cn 1114 (gm_m_push _) (gm_s_iconst dL_law_1113) (
    gm_cn 1115 (gm_m_op2 _) (gm_s_iadd dL_law_1114) (
    gm_cn 1116 gm_m_iald (gm_s_iald dL_law_1115) (
    gm_cn 1119 (gm_m_vcall _ _ _) (gcl_X8_tape gw_400 dL_law_1116) (
    gm_cn 1120 (gm_m_aload _) (gm_s_aload_n dL_law_1119 rfl) (
    gm_cn 1121 (gm_m_aload _) (gm_s_aload_n dL_law_1120 rfl) (
    gm_cn 1122 (gm_m_iload _) (gm_s_iload_n dL_law_1121 rfl) (
    gm_cn 1123 (gm_m_push _) (gm_s_iconst dL_law_1122) (
    gm_cn 1124 (gm_m_op2 _) (gm_s_iadd dL_law_1123) (
    gm_cn 1125 gm_m_iald (gm_s_iald dL_law_1124) (
    gm_cn 1126 (gm_m_aload _) (gm_s_aload_n dL_law_1125 rfl) (
    gm_cn 1127 (gm_m_iload _) (gm_s_iload_n dL_law_1126 rfl) (
    gm_cn 1128 (gm_m_push _) (gm_s_iconst dL_law_1127) (
    gm_cn 1129 (gm_m_op2 _) (gm_s_iadd dL_law_1128) (
    gm_cn 1130 gm_m_iald (gm_s_iald dL_law_1129) (
    gm_cn 1131 (gm_m_aload _) (gm_s_aload_n dL_law_1130 rfl) (
    gm_cn 1132 (gm_m_iload _) (gm_s_iload_n dL_law_1131 rfl) (
    gm_cn 1133 (gm_m_push _) (gm_s_iconst dL_law_1132) (
    gm_cn 1134 (gm_m_op2 _) (gm_s_iadd dL_law_1133) (
    gm_cn 1135 gm_m_iald (gm_s_iald dL_law_1134) (
    gm_cn 1138 (gm_m_vcall _ _ _) (gcl_X9_tape gw_401 dL_law_1135) (
    gm_cn 1141 (gm_m_ceq _) (gm_s_ceq (bpc := bpL_law) (b := 38) dL_law_1138 rfl) (
    gm_cn 1142 (gm_m_push _) (gm_s_iconst dL_law_1141) (
    gm_cn 0 gm_m_zret (gm_s_zret dL_law_1142 rfl 0) (
    trivial))))))))))))))))))))))))))))))))))))),
  gm_cn 1144 (gm_m_aload _) (gm_s_aload_n dL_law_1143 rfl) (
    gm_cn 1145 (gm_m_aload _) (gm_s_aload_n dL_law_1144 rfl) (
    gm_cn 1146 (gm_m_iload _) (gm_s_iload_n dL_law_1145 rfl) (
    gm_cn 1147 (gm_m_push _) (gm_s_iconst dL_law_1146) (
    gm_cn 1148 (gm_m_op2 _) (gm_s_iadd dL_law_1147) (
    gm_cn 1149 gm_m_iald (gm_s_iald dL_law_1148) (
    gm_cn 1150 (gm_m_aload _) (gm_s_aload_n dL_law_1149 rfl) (
    gm_cn 1151 (gm_m_iload _) (gm_s_iload_n dL_law_1150 rfl) (
    gm_cn 1152 (gm_m_push _) (gm_s_iconst dL_law_1151) (
    gm_cn 1153 (gm_m_op2 _) (gm_s_iadd dL_law_1152) (
    gm_cn 1154 gm_m_iald (gm_s_iald dL_law_1153) (
    gm_cn 1155 (gm_m_aload _) (gm_s_aload_n dL_law_1154 rfl) (
    gm_cn 1156 (gm_m_iload _) (gm_s_iload_n dL_law_1155 rfl) (
    gm_cn 1157 (gm_m_push _) (gm_s_iconst dL_law_1156) (
    gm_cn 1158 (gm_m_op2 _) (gm_s_iadd dL_law_1157) (
    gm_cn 1159 gm_m_iald (gm_s_iald dL_law_1158) (
    gm_cn 1160 gm_m_i2l (gm_s_i2l dL_law_1159) (
    gm_cn 1162 (gm_m_push _) (gm_s_bipush dL_law_1160 rfl) (
    gm_cn 1163 gm_m_lshl (gm_s_lshl dL_law_1162) (
    gm_cn 1164 (gm_m_aload _) (gm_s_aload_n dL_law_1163 rfl) (
    gm_cn 1165 (gm_m_iload _) (gm_s_iload_n dL_law_1164 rfl) (
    gm_cn 1166 (gm_m_push _) (gm_s_iconst dL_law_1165) (
    gm_cn 1167 (gm_m_op2 _) (gm_s_iadd dL_law_1166) (
    gm_cn 1168 gm_m_iald (gm_s_iald dL_law_1167) (
    gm_cn 1169 gm_m_i2l (gm_s_i2l dL_law_1168) (
    gm_cn 1172 (gm_m_push _) (gm_s_ldc2 gw_402 (by decide +kernel) dL_law_1169) (
    gm_cn 1173 (gm_m_lop2 _) (gm_s_land dL_law_1172) (
    gm_cn 1174 (gm_m_lop2 _) (gm_s_lor dL_law_1173) (
    gm_cn 1177 (gm_m_vcall _ _ _) (gcl_X8_item gw_403 dL_law_1174) (
    gm_cn 1178 (gm_m_aload _) (gm_s_aload_n dL_law_1177 rfl) (
    gm_cn 1179 (gm_m_aload _) (gm_s_aload_n dL_law_1178 rfl) (
    gm_cn 1180 (gm_m_iload _) (gm_s_iload_n dL_law_1179 rfl) (
    gm_cn 1181 (gm_m_push _) (gm_s_iconst dL_law_1180) (
    gm_cn 1182 (gm_m_op2 _) (gm_s_iadd dL_law_1181) (
    gm_cn 1183 gm_m_iald (gm_s_iald dL_law_1182) (
    gm_cn 1184 (gm_m_aload _) (gm_s_aload_n dL_law_1183 rfl) (
    gm_cn 1185 (gm_m_iload _) (gm_s_iload_n dL_law_1184 rfl) (
    gm_cn 1186 (gm_m_push _) (gm_s_iconst dL_law_1185) (
    gm_cn 1187 (gm_m_op2 _) (gm_s_iadd dL_law_1186) (
    gm_cn 1188 gm_m_iald (gm_s_iald dL_law_1187) (
    gm_cn 1189 (gm_m_aload _) (gm_s_aload_n dL_law_1188 rfl) (
    gm_cn 1190 (gm_m_iload _) (gm_s_iload_n dL_law_1189 rfl) (
    gm_cn 1191 (gm_m_push _) (gm_s_iconst dL_law_1190) (
    gm_cn 1192 (gm_m_op2 _) (gm_s_iadd dL_law_1191) (
    gm_cn 1193 gm_m_iald (gm_s_iald dL_law_1192) (
    gm_cn 1194 gm_m_i2l (gm_s_i2l dL_law_1193) (
    gm_cn 1196 (gm_m_push _) (gm_s_bipush dL_law_1194 rfl) (
    gm_cn 1197 gm_m_lshl (gm_s_lshl dL_law_1196) (
    gm_cn 1198 (gm_m_aload _) (gm_s_aload_n dL_law_1197 rfl) (
    gm_cn 1199 (gm_m_iload _) (gm_s_iload_n dL_law_1198 rfl) (
    gm_cn 1200 (gm_m_push _) (gm_s_iconst dL_law_1199) (
    gm_cn 1201 (gm_m_op2 _) (gm_s_iadd dL_law_1200) (
    gm_cn 1202 gm_m_iald (gm_s_iald dL_law_1201) (
    gm_cn 1203 gm_m_i2l (gm_s_i2l dL_law_1202) (
    gm_cn 1206 (gm_m_push _) (gm_s_ldc2 gw_402 (by decide +kernel) dL_law_1203) (
    gm_cn 1207 (gm_m_lop2 _) (gm_s_land dL_law_1206) (
    gm_cn 1208 (gm_m_lop2 _) (gm_s_lor dL_law_1207) (
    gm_cn 1211 (gm_m_vcall _ _ _) (gcl_X9_item gw_404 dL_law_1208) (
    gm_cn 1214 (gm_m_ceq _) (gm_s_ceq (bpc := bpL_law) (b := 38) dL_law_1211 rfl) (
    gm_cn 1215 (gm_m_push _) (gm_s_iconst dL_law_1214) (
    gm_cn 0 gm_m_zret (gm_s_zret dL_law_1215 rfl 0) (
    trivial))))))))))))))))))))))))))))))))))))))))))))))))))))))))))))),
  gm_cn 1217 (gm_m_aload _) (gm_s_aload_n dL_law_1216 rfl) (
    gm_cn 1218 (gm_m_aload _) (gm_s_aload_n dL_law_1217 rfl) (
    gm_cn 1219 (gm_m_iload _) (gm_s_iload_n dL_law_1218 rfl) (
    gm_cn 1220 (gm_m_push _) (gm_s_iconst dL_law_1219) (
    gm_cn 1221 (gm_m_op2 _) (gm_s_iadd dL_law_1220) (
    gm_cn 1222 gm_m_iald (gm_s_iald dL_law_1221) (
    gm_cn 1223 (gm_m_aload _) (gm_s_aload_n dL_law_1222 rfl) (
    gm_cn 1224 (gm_m_iload _) (gm_s_iload_n dL_law_1223 rfl) (
    gm_cn 1225 (gm_m_push _) (gm_s_iconst dL_law_1224) (
    gm_cn 1226 (gm_m_op2 _) (gm_s_iadd dL_law_1225) (
    gm_cn 1227 gm_m_iald (gm_s_iald dL_law_1226) (
    gm_cn 1230 (gm_m_vcall _ _ _) (gcl_X8_read gw_405 dL_law_1227) (
    gm_cn 1231 (gm_m_aload _) (gm_s_aload_n dL_law_1230 rfl) (
    gm_cn 1232 (gm_m_aload _) (gm_s_aload_n dL_law_1231 rfl) (
    gm_cn 1233 (gm_m_iload _) (gm_s_iload_n dL_law_1232 rfl) (
    gm_cn 1234 (gm_m_push _) (gm_s_iconst dL_law_1233) (
    gm_cn 1235 (gm_m_op2 _) (gm_s_iadd dL_law_1234) (
    gm_cn 1236 gm_m_iald (gm_s_iald dL_law_1235) (
    gm_cn 1237 (gm_m_aload _) (gm_s_aload_n dL_law_1236 rfl) (
    gm_cn 1238 (gm_m_iload _) (gm_s_iload_n dL_law_1237 rfl) (
    gm_cn 1239 (gm_m_push _) (gm_s_iconst dL_law_1238) (
    gm_cn 1240 (gm_m_op2 _) (gm_s_iadd dL_law_1239) (
    gm_cn 1241 gm_m_iald (gm_s_iald dL_law_1240) (
    gm_cn 1244 (gm_m_vcall _ _ _) (gcl_X9_read gw_406 dL_law_1241) (
    gm_cn 1245 gm_m_lcmp (gm_s_lcmp dL_law_1244) (
    gm_cn 1248 (gm_m_ifeq _) (gm_s_ifeq (bpc := bpL_law) (b := 38) dL_law_1245 rfl) (
    gm_cn 1249 (gm_m_push _) (gm_s_iconst dL_law_1248) (
    gm_cn 0 gm_m_zret (gm_s_zret dL_law_1249 rfl 0) (
    trivial)))))))))))))))))))))))))))),
  gm_cn 1251 (gm_m_aload _) (gm_s_aload_n dL_law_1250 rfl) (
    gm_cn 1252 (gm_m_aload _) (gm_s_aload_n dL_law_1251 rfl) (
    gm_cn 1253 (gm_m_iload _) (gm_s_iload_n dL_law_1252 rfl) (
    gm_cn 1254 (gm_m_push _) (gm_s_iconst dL_law_1253) (
    gm_cn 1255 (gm_m_op2 _) (gm_s_iadd dL_law_1254) (
    gm_cn 1256 gm_m_iald (gm_s_iald dL_law_1255) (
    gm_cn 1257 (gm_m_aload _) (gm_s_aload_n dL_law_1256 rfl) (
    gm_cn 1258 (gm_m_iload _) (gm_s_iload_n dL_law_1257 rfl) (
    gm_cn 1259 (gm_m_push _) (gm_s_iconst dL_law_1258) (
    gm_cn 1260 (gm_m_op2 _) (gm_s_iadd dL_law_1259) (
    gm_cn 1261 gm_m_iald (gm_s_iald dL_law_1260) (
    gm_cn 1262 (gm_m_aload _) (gm_s_aload_n dL_law_1261 rfl) (
    gm_cn 1263 (gm_m_iload _) (gm_s_iload_n dL_law_1262 rfl) (
    gm_cn 1264 (gm_m_push _) (gm_s_iconst dL_law_1263) (
    gm_cn 1265 (gm_m_op2 _) (gm_s_iadd dL_law_1264) (
    gm_cn 1266 gm_m_iald (gm_s_iald dL_law_1265) (
    gm_cn 1267 (gm_m_aload _) (gm_s_aload_n dL_law_1266 rfl) (
    gm_cn 1268 (gm_m_iload _) (gm_s_iload_n dL_law_1267 rfl) (
    gm_cn 1269 (gm_m_push _) (gm_s_iconst dL_law_1268) (
    gm_cn 1270 (gm_m_op2 _) (gm_s_iadd dL_law_1269) (
    gm_cn 1271 gm_m_iald (gm_s_iald dL_law_1270) (
    gm_cn 1272 (gm_m_aload _) (gm_s_aload_n dL_law_1271 rfl) (
    gm_cn 1273 (gm_m_iload _) (gm_s_iload_n dL_law_1272 rfl) (
    gm_cn 1274 (gm_m_push _) (gm_s_iconst dL_law_1273) (
    gm_cn 1275 (gm_m_op2 _) (gm_s_iadd dL_law_1274) (
    gm_cn 1276 gm_m_iald (gm_s_iald dL_law_1275) (
    gm_cn 1279 (gm_m_vcall _ _ _) (gcl_X8_shift gw_407 dL_law_1276) (
    gm_cn 1280 (gm_m_aload _) (gm_s_aload_n dL_law_1279 rfl) (
    gm_cn 1281 (gm_m_aload _) (gm_s_aload_n dL_law_1280 rfl) (
    gm_cn 1282 (gm_m_iload _) (gm_s_iload_n dL_law_1281 rfl) (
    gm_cn 1283 (gm_m_push _) (gm_s_iconst dL_law_1282) (
    gm_cn 1284 (gm_m_op2 _) (gm_s_iadd dL_law_1283) (
    gm_cn 1285 gm_m_iald (gm_s_iald dL_law_1284) (
    gm_cn 1286 (gm_m_aload _) (gm_s_aload_n dL_law_1285 rfl) (
    gm_cn 1287 (gm_m_iload _) (gm_s_iload_n dL_law_1286 rfl) (
    gm_cn 1288 (gm_m_push _) (gm_s_iconst dL_law_1287) (
    gm_cn 1289 (gm_m_op2 _) (gm_s_iadd dL_law_1288) (
    gm_cn 1290 gm_m_iald (gm_s_iald dL_law_1289) (
    gm_cn 1291 (gm_m_aload _) (gm_s_aload_n dL_law_1290 rfl) (
    gm_cn 1292 (gm_m_iload _) (gm_s_iload_n dL_law_1291 rfl) (
    gm_cn 1293 (gm_m_push _) (gm_s_iconst dL_law_1292) (
    gm_cn 1294 (gm_m_op2 _) (gm_s_iadd dL_law_1293) (
    gm_cn 1295 gm_m_iald (gm_s_iald dL_law_1294) (
    gm_cn 1296 (gm_m_aload _) (gm_s_aload_n dL_law_1295 rfl) (
    gm_cn 1297 (gm_m_iload _) (gm_s_iload_n dL_law_1296 rfl) (
    gm_cn 1298 (gm_m_push _) (gm_s_iconst dL_law_1297) (
    gm_cn 1299 (gm_m_op2 _) (gm_s_iadd dL_law_1298) (
    gm_cn 1300 gm_m_iald (gm_s_iald dL_law_1299) (
    gm_cn 1301 (gm_m_aload _) (gm_s_aload_n dL_law_1300 rfl) (
    gm_cn 1302 (gm_m_iload _) (gm_s_iload_n dL_law_1301 rfl) (
    gm_cn 1303 (gm_m_push _) (gm_s_iconst dL_law_1302) (
    gm_cn 1304 (gm_m_op2 _) (gm_s_iadd dL_law_1303) (
    gm_cn 1305 gm_m_iald (gm_s_iald dL_law_1304) (
    gm_cn 1308 (gm_m_vcall _ _ _) (gcl_X9_shift gw_408 dL_law_1305) (
    gm_cn 1311 (gm_m_ceq _) (gm_s_ceq (bpc := bpL_law) (b := 38) dL_law_1308 rfl) (
    gm_cn 1312 (gm_m_push _) (gm_s_iconst dL_law_1311) (
    gm_cn 0 gm_m_zret (gm_s_zret dL_law_1312 rfl 0) (
    trivial))))))))))))))))))))))))))))))))))))))))))))))))))))))))),
  gm_cn 1316 (gm_m_iinc _ _) (gm_s_iinc dL_law_1313 (by decide)) (
    gm_cn 0 (gm_m_goto _) (gm_s_goto (bpc := bpL_law) (b := 1) dL_law_1316 rfl 0) (
    trivial)),
  gm_cn 1320 (gm_m_push _) (gm_s_iconst dL_law_1319) (
    gm_cn 0 gm_m_zret (gm_s_zret dL_law_1320 rfl 0) (
    trivial)), trivial⟩
