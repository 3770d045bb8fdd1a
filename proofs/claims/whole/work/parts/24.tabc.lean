theorem dX9_init_0 : decode cX9_init 0 = .ok (.aload_n 0, 1) := by decide +kernel
theorem dX9_init_1 : decode cX9_init 1 = .ok (.invokespecial 1, 3) := by decide +kernel
theorem dX9_init_4 : decode cX9_init 4 = .ok (.aload_n 0, 1) := by decide +kernel
theorem dX9_init_5 : decode cX9_init 5 = .ok (.iconst 0, 1) := by decide +kernel
theorem dX9_init_6 : decode cX9_init 6 = .ok (.putfield 7, 3) := by decide +kernel
theorem dX9_init_9 : decode cX9_init 9 = .ok (.aload_n 0, 1) := by decide +kernel
theorem dX9_init_10 : decode cX9_init 10 = .ok (.iconst 0, 1) := by decide +kernel
theorem dX9_init_11 : decode cX9_init 11 = .ok (.putfield 13, 3) := by decide +kernel
theorem dX9_init_14 : decode cX9_init 14 = .ok (.aload_n 0, 1) := by decide +kernel
theorem dX9_init_15 : decode cX9_init 15 = .ok (.bipush 6, 2) := by decide +kernel
theorem dX9_init_17 : decode cX9_init 17 = .ok (.newarray .int, 2) := by decide +kernel
theorem dX9_init_19 : decode cX9_init 19 = .ok (.putfield 16, 3) := by decide +kernel
theorem dX9_init_22 : decode cX9_init 22 = .ok (.aload_n 0, 1) := by decide +kernel
theorem dX9_init_23 : decode cX9_init 23 = .ok (.bipush 6, 2) := by decide +kernel
theorem dX9_init_25 : decode cX9_init 25 = .ok (.newarray .int, 2) := by decide +kernel
theorem dX9_init_27 : decode cX9_init 27 = .ok (.putfield 20, 3) := by decide +kernel
theorem dX9_init_30 : decode cX9_init 30 = .ok (.aload_n 0, 1) := by decide +kernel
theorem dX9_init_31 : decode cX9_init 31 = .ok (.bipush 6, 2) := by decide +kernel
theorem dX9_init_33 : decode cX9_init 33 = .ok (.newarray .int, 2) := by decide +kernel
theorem dX9_init_35 : decode cX9_init 35 = .ok (.putfield 23, 3) := by decide +kernel
theorem dX9_init_38 : decode cX9_init 38 = .ok (.aload_n 0, 1) := by decide +kernel
theorem dX9_init_39 : decode cX9_init 39 = .ok (.bipush 6, 2) := by decide +kernel
theorem dX9_init_41 : decode cX9_init 41 = .ok (.newarray .int, 2) := by decide +kernel
theorem dX9_init_43 : decode cX9_init 43 = .ok (.putfield 26, 3) := by decide +kernel
theorem dX9_init_46 : decode cX9_init 46 = .ok (.aload_n 0, 1) := by decide +kernel
theorem dX9_init_47 : decode cX9_init 47 = .ok (.bipush 6, 2) := by decide +kernel
theorem dX9_init_49 : decode cX9_init 49 = .ok (.newarray .int, 2) := by decide +kernel
theorem dX9_init_51 : decode cX9_init 51 = .ok (.putfield 29, 3) := by decide +kernel
theorem dX9_init_54 : decode cX9_init 54 = .ok (.aload_n 0, 1) := by decide +kernel
theorem dX9_init_55 : decode cX9_init 55 = .ok (.bipush 6, 2) := by decide +kernel
theorem dX9_init_57 : decode cX9_init 57 = .ok (.newarray .int, 2) := by decide +kernel
theorem dX9_init_59 : decode cX9_init 59 = .ok (.putfield 32, 3) := by decide +kernel
theorem dX9_init_62 : decode cX9_init 62 = .ok (.aload_n 0, 1) := by decide +kernel
theorem dX9_init_63 : decode cX9_init 63 = .ok (.bipush 24, 2) := by decide +kernel
theorem dX9_init_65 : decode cX9_init 65 = .ok (.newarray .int, 2) := by decide +kernel
theorem dX9_init_67 : decode cX9_init 67 = .ok (.putfield 35, 3) := by decide +kernel
theorem dX9_init_70 : decode cX9_init 70 = .ok (.aload_n 0, 1) := by decide +kernel
theorem dX9_init_71 : decode cX9_init 71 = .ok (.iconst 0, 1) := by decide +kernel
theorem dX9_init_72 : decode cX9_init 72 = .ok (.putfield 38, 3) := by decide +kernel
theorem dX9_init_75 : decode cX9_init 75 = .ok (.aload_n 0, 1) := by decide +kernel
theorem dX9_init_76 : decode cX9_init 76 = .ok (.iconst (-1), 1) := by decide +kernel
theorem dX9_init_77 : decode cX9_init 77 = .ok (.putfield 41, 3) := by decide +kernel
theorem dX9_init_80 : decode cX9_init 80 = .ok (.aload_n 0, 1) := by decide +kernel
theorem dX9_init_81 : decode cX9_init 81 = .ok (.iconst 0, 1) := by decide +kernel
theorem dX9_init_82 : decode cX9_init 82 = .ok (.putfield 44, 3) := by decide +kernel
theorem dX9_init_85 : decode cX9_init 85 = .ok (.aload_n 0, 1) := by decide +kernel
theorem dX9_init_86 : decode cX9_init 86 = .ok (.iconst 0, 1) := by decide +kernel
theorem dX9_init_87 : decode cX9_init 87 = .ok (.putfield 47, 3) := by decide +kernel
theorem dX9_init_90 : decode cX9_init 90 = .ok (.aload_n 0, 1) := by decide +kernel
theorem dX9_init_91 : decode cX9_init 91 = .ok (.iconst 0, 1) := by decide +kernel
theorem dX9_init_92 : decode cX9_init 92 = .ok (.putfield 50, 3) := by decide +kernel
theorem dX9_init_95 : decode cX9_init 95 = .ok (.aload_n 0, 1) := by decide +kernel
theorem dX9_init_96 : decode cX9_init 96 = .ok (.bipush 100, 2) := by decide +kernel
theorem dX9_init_98 : decode cX9_init 98 = .ok (.newarray .int, 2) := by decide +kernel
theorem dX9_init_100 : decode cX9_init 100 = .ok (.putfield 53, 3) := by decide +kernel
theorem dX9_init_103 : decode cX9_init 103 = .ok (.aload_n 0, 1) := by decide +kernel
theorem dX9_init_104 : decode cX9_init 104 = .ok (.bipush 6, 2) := by decide +kernel
theorem dX9_init_106 : decode cX9_init 106 = .ok (.newarray .int, 2) := by decide +kernel
theorem dX9_init_108 : decode cX9_init 108 = .ok (.putfield 56, 3) := by decide +kernel
theorem dX9_init_111 : decode cX9_init 111 = .ok (.aload_n 0, 1) := by decide +kernel
theorem dX9_init_112 : decode cX9_init 112 = .ok (.bipush 60, 2) := by decide +kernel
theorem dX9_init_114 : decode cX9_init 114 = .ok (.newarray .int, 2) := by decide +kernel
theorem dX9_init_116 : decode cX9_init 116 = .ok (.putfield 59, 3) := by decide +kernel
theorem dX9_init_119 : decode cX9_init 119 = .ok (.aload_n 0, 1) := by decide +kernel
theorem dX9_init_120 : decode cX9_init 120 = .ok (.bipush 60, 2) := by decide +kernel
theorem dX9_init_122 : decode cX9_init 122 = .ok (.newarray .int, 2) := by decide +kernel
theorem dX9_init_124 : decode cX9_init 124 = .ok (.putfield 62, 3) := by decide +kernel
theorem dX9_init_127 : decode cX9_init 127 = .ok (.aload_n 0, 1) := by decide +kernel
theorem dX9_init_128 : decode cX9_init 128 = .ok (.bipush 60, 2) := by decide +kernel
theorem dX9_init_130 : decode cX9_init 130 = .ok (.newarray .int, 2) := by decide +kernel
theorem dX9_init_132 : decode cX9_init 132 = .ok (.putfield 65, 3) := by decide +kernel
theorem dX9_init_135 : decode cX9_init 135 = .ok (.aload_n 0, 1) := by decide +kernel
theorem dX9_init_136 : decode cX9_init 136 = .ok (.bipush 60, 2) := by decide +kernel
theorem dX9_init_138 : decode cX9_init 138 = .ok (.newarray .int, 2) := by decide +kernel
theorem dX9_init_140 : decode cX9_init 140 = .ok (.putfield 68, 3) := by decide +kernel
theorem dX9_init_143 : decode cX9_init 143 = .ok (.aload_n 0, 1) := by decide +kernel
theorem dX9_init_144 : decode cX9_init 144 = .ok (.sipush 600, 3) := by decide +kernel
theorem dX9_init_147 : decode cX9_init 147 = .ok (.newarray .int, 2) := by decide +kernel
theorem dX9_init_149 : decode cX9_init 149 = .ok (.putfield 71, 3) := by decide +kernel
theorem dX9_init_152 : decode cX9_init 152 = .ok (.aload_n 0, 1) := by decide +kernel
theorem dX9_init_153 : decode cX9_init 153 = .ok (.bipush 101, 2) := by decide +kernel
theorem dX9_init_155 : decode cX9_init 155 = .ok (.newarray .int, 2) := by decide +kernel
theorem dX9_init_157 : decode cX9_init 157 = .ok (.putfield 74, 3) := by decide +kernel
theorem dX9_init_160 : decode cX9_init 160 = .ok (.aload_n 0, 1) := by decide +kernel
theorem dX9_init_161 : decode cX9_init 161 = .ok (.iconst 0, 1) := by decide +kernel
theorem dX9_init_162 : decode cX9_init 162 = .ok (.putfield 77, 3) := by decide +kernel
theorem dX9_init_165 : decode cX9_init 165 = .ok (.aload_n 0, 1) := by decide +kernel
theorem dX9_init_166 : decode cX9_init 166 = .ok (.iconst 0, 1) := by decide +kernel
theorem dX9_init_167 : decode cX9_init 167 = .ok (.putfield 80, 3) := by decide +kernel
theorem dX9_init_170 : decode cX9_init 170 = .ok (.aload_n 0, 1) := by decide +kernel
theorem dX9_init_171 : decode cX9_init 171 = .ok (.iconst 0, 1) := by decide +kernel
theorem dX9_init_172 : decode cX9_init 172 = .ok (.putfield 83, 3) := by decide +kernel
theorem dX9_init_175 : decode cX9_init 175 = .ok (.aload_n 0, 1) := by decide +kernel
theorem dX9_init_176 : decode cX9_init 176 = .ok (.bipush 14, 2) := by decide +kernel
theorem dX9_init_178 : decode cX9_init 178 = .ok (.newarray .int, 2) := by decide +kernel
theorem dX9_init_180 : decode cX9_init 180 = .ok (.dup, 1) := by decide +kernel
theorem dX9_init_181 : decode cX9_init 181 = .ok (.iconst 0, 1) := by decide +kernel
theorem dX9_init_182 : decode cX9_init 182 = .ok (.bipush 115, 2) := by decide +kernel
theorem dX9_init_184 : decode cX9_init 184 = .ok (.iastore, 1) := by decide +kernel
theorem dX9_init_185 : decode cX9_init 185 = .ok (.dup, 1) := by decide +kernel
theorem dX9_init_186 : decode cX9_init 186 = .ok (.iconst 1, 1) := by decide +kernel
theorem dX9_init_187 : decode cX9_init 187 = .ok (.bipush 117, 2) := by decide +kernel
theorem dX9_init_189 : decode cX9_init 189 = .ok (.iastore, 1) := by decide +kernel
theorem dX9_init_190 : decode cX9_init 190 = .ok (.dup, 1) := by decide +kernel
theorem dX9_init_191 : decode cX9_init 191 = .ok (.iconst 2, 1) := by decide +kernel
theorem dX9_init_192 : decode cX9_init 192 = .ok (.bipush 110, 2) := by decide +kernel
theorem dX9_init_194 : decode cX9_init 194 = .ok (.iastore, 1) := by decide +kernel
theorem dX9_init_195 : decode cX9_init 195 = .ok (.dup, 1) := by decide +kernel
theorem dX9_init_196 : decode cX9_init 196 = .ok (.iconst 3, 1) := by decide +kernel
theorem dX9_init_197 : decode cX9_init 197 = .ok (.bipush 99, 2) := by decide +kernel
theorem dX9_init_199 : decode cX9_init 199 = .ok (.iastore, 1) := by decide +kernel
theorem dX9_init_200 : decode cX9_init 200 = .ok (.dup, 1) := by decide +kernel
theorem dX9_init_201 : decode cX9_init 201 = .ok (.iconst 4, 1) := by decide +kernel
theorem dX9_init_202 : decode cX9_init 202 = .ok (.bipush 111, 2) := by decide +kernel
theorem dX9_init_204 : decode cX9_init 204 = .ok (.iastore, 1) := by decide +kernel
theorem dX9_init_205 : decode cX9_init 205 = .ok (.dup, 1) := by decide +kernel
theorem dX9_init_206 : decode cX9_init 206 = .ok (.iconst 5, 1) := by decide +kernel
theorem dX9_init_207 : decode cX9_init 207 = .ok (.bipush 108, 2) := by decide +kernel
theorem dX9_init_209 : decode cX9_init 209 = .ok (.iastore, 1) := by decide +kernel
theorem dX9_init_210 : decode cX9_init 210 = .ok (.dup, 1) := by decide +kernel
theorem dX9_init_211 : decode cX9_init 211 = .ok (.bipush 6, 2) := by decide +kernel
theorem dX9_init_213 : decode cX9_init 213 = .ok (.bipush 100, 2) := by decide +kernel
theorem dX9_init_215 : decode cX9_init 215 = .ok (.iastore, 1) := by decide +kernel
theorem dX9_init_216 : decode cX9_init 216 = .ok (.dup, 1) := by decide +kernel
theorem dX9_init_217 : decode cX9_init 217 = .ok (.bipush 7, 2) := by decide +kernel
theorem dX9_init_219 : decode cX9_init 219 = .ok (.bipush 108, 2) := by decide +kernel
theorem dX9_init_221 : decode cX9_init 221 = .ok (.iastore, 1) := by decide +kernel
theorem dX9_init_222 : decode cX9_init 222 = .ok (.dup, 1) := by decide +kernel
theorem dX9_init_223 : decode cX9_init 223 = .ok (.bipush 8, 2) := by decide +kernel
theorem dX9_init_225 : decode cX9_init 225 = .ok (.bipush 111, 2) := by decide +kernel
theorem dX9_init_227 : decode cX9_init 227 = .ok (.iastore, 1) := by decide +kernel
theorem dX9_init_228 : decode cX9_init 228 = .ok (.dup, 1) := by decide +kernel
theorem dX9_init_229 : decode cX9_init 229 = .ok (.bipush 9, 2) := by decide +kernel
theorem dX9_init_231 : decode cX9_init 231 = .ok (.bipush 119, 2) := by decide +kernel
theorem dX9_init_233 : decode cX9_init 233 = .ok (.iastore, 1) := by decide +kernel
theorem dX9_init_234 : decode cX9_init 234 = .ok (.dup, 1) := by decide +kernel
theorem dX9_init_235 : decode cX9_init 235 = .ok (.bipush 10, 2) := by decide +kernel
theorem dX9_init_237 : decode cX9_init 237 = .ok (.bipush 104, 2) := by decide +kernel
theorem dX9_init_239 : decode cX9_init 239 = .ok (.iastore, 1) := by decide +kernel
theorem dX9_init_240 : decode cX9_init 240 = .ok (.dup, 1) := by decide +kernel
theorem dX9_init_241 : decode cX9_init 241 = .ok (.bipush 11, 2) := by decide +kernel
theorem dX9_init_243 : decode cX9_init 243 = .ok (.bipush 105, 2) := by decide +kernel
theorem dX9_init_245 : decode cX9_init 245 = .ok (.iastore, 1) := by decide +kernel
theorem dX9_init_246 : decode cX9_init 246 = .ok (.dup, 1) := by decide +kernel
theorem dX9_init_247 : decode cX9_init 247 = .ok (.bipush 12, 2) := by decide +kernel
theorem dX9_init_249 : decode cX9_init 249 = .ok (.bipush 103, 2) := by decide +kernel
theorem dX9_init_251 : decode cX9_init 251 = .ok (.iastore, 1) := by decide +kernel
theorem dX9_init_252 : decode cX9_init 252 = .ok (.dup, 1) := by decide +kernel
theorem dX9_init_253 : decode cX9_init 253 = .ok (.bipush 13, 2) := by decide +kernel
theorem dX9_init_255 : decode cX9_init 255 = .ok (.bipush 104, 2) := by decide +kernel
theorem dX9_init_257 : decode cX9_init 257 = .ok (.iastore, 1) := by decide +kernel
theorem dX9_init_258 : decode cX9_init 258 = .ok (.putfield 86, 3) := by decide +kernel
theorem dX9_init_261 : decode cX9_init 261 = .ok (.aload_n 0, 1) := by decide +kernel
theorem dX9_init_262 : decode cX9_init 262 = .ok (.bipush 100, 2) := by decide +kernel
theorem dX9_init_264 : decode cX9_init 264 = .ok (.newarray .boolean, 2) := by decide +kernel
theorem dX9_init_266 : decode cX9_init 266 = .ok (.putfield 89, 3) := by decide +kernel
theorem dX9_init_269 : decode cX9_init 269 = .ok (.aload_n 0, 1) := by decide +kernel
theorem dX9_init_270 : decode cX9_init 270 = .ok (.iconst (-1), 1) := by decide +kernel
theorem dX9_init_271 : decode cX9_init 271 = .ok (.putfield 93, 3) := by decide +kernel
theorem dX9_init_274 : decode cX9_init 274 = .ok (.aload_n 0, 1) := by decide +kernel
theorem dX9_init_275 : decode cX9_init 275 = .ok (.iconst 0, 1) := by decide +kernel
theorem dX9_init_276 : decode cX9_init 276 = .ok (.putfield 96, 3) := by decide +kernel
theorem dX9_init_279 : decode cX9_init 279 = .ok (.aload_n 0, 1) := by decide +kernel
theorem dX9_init_280 : decode cX9_init 280 = .ok (.iconst (-1), 1) := by decide +kernel
theorem dX9_init_281 : decode cX9_init 281 = .ok (.putfield 99, 3) := by decide +kernel
theorem dX9_init_284 : decode cX9_init 284 = .ok (.aload_n 0, 1) := by decide +kernel
theorem dX9_init_285 : decode cX9_init 285 = .ok (.iconst (-1), 1) := by decide +kernel
theorem dX9_init_286 : decode cX9_init 286 = .ok (.putfield 102, 3) := by decide +kernel
theorem dX9_init_289 : decode cX9_init 289 = .ok (.aload_n 0, 1) := by decide +kernel
theorem dX9_init_290 : decode cX9_init 290 = .ok (.bipush 6, 2) := by decide +kernel
theorem dX9_init_292 : decode cX9_init 292 = .ok (.newarray .int, 2) := by decide +kernel
theorem dX9_init_294 : decode cX9_init 294 = .ok (.putfield 105, 3) := by decide +kernel
theorem dX9_init_297 : decode cX9_init 297 = .ok (.aload_n 0, 1) := by decide +kernel
theorem dX9_init_298 : decode cX9_init 298 = .ok (.bipush 6, 2) := by decide +kernel
theorem dX9_init_300 : decode cX9_init 300 = .ok (.newarray .int, 2) := by decide +kernel
theorem dX9_init_302 : decode cX9_init 302 = .ok (.putfield 108, 3) := by decide +kernel
theorem dX9_init_305 : decode cX9_init 305 = .ok (.aload_n 0, 1) := by decide +kernel
theorem dX9_init_306 : decode cX9_init 306 = .ok (.iconst 0, 1) := by decide +kernel
theorem dX9_init_307 : decode cX9_init 307 = .ok (.putfield 111, 3) := by decide +kernel
theorem dX9_init_310 : decode cX9_init 310 = .ok (.aload_n 0, 1) := by decide +kernel
theorem dX9_init_311 : decode cX9_init 311 = .ok (.bipush 6, 2) := by decide +kernel
theorem dX9_init_313 : decode cX9_init 313 = .ok (.newarray .int, 2) := by decide +kernel
theorem dX9_init_315 : decode cX9_init 315 = .ok (.putfield 114, 3) := by decide +kernel
theorem dX9_init_318 : decode cX9_init 318 = .ok (.aload_n 0, 1) := by decide +kernel
theorem dX9_init_319 : decode cX9_init 319 = .ok (.iconst 0, 1) := by decide +kernel
theorem dX9_init_320 : decode cX9_init 320 = .ok (.putfield 117, 3) := by decide +kernel
theorem dX9_init_323 : decode cX9_init 323 = .ok (.aload_n 0, 1) := by decide +kernel
theorem dX9_init_324 : decode cX9_init 324 = .ok (.bipush 8, 2) := by decide +kernel
theorem dX9_init_326 : decode cX9_init 326 = .ok (.newarray .int, 2) := by decide +kernel
theorem dX9_init_328 : decode cX9_init 328 = .ok (.putfield 120, 3) := by decide +kernel
theorem dX9_init_331 : decode cX9_init 331 = .ok (.aload_n 0, 1) := by decide +kernel
theorem dX9_init_332 : decode cX9_init 332 = .ok (.bipush 8, 2) := by decide +kernel
theorem dX9_init_334 : decode cX9_init 334 = .ok (.newarray .int, 2) := by decide +kernel
theorem dX9_init_336 : decode cX9_init 336 = .ok (.putfield 123, 3) := by decide +kernel
theorem dX9_init_339 : decode cX9_init 339 = .ok (.aload_n 0, 1) := by decide +kernel
theorem dX9_init_340 : decode cX9_init 340 = .ok (.bipush 8, 2) := by decide +kernel
theorem dX9_init_342 : decode cX9_init 342 = .ok (.newarray .int, 2) := by decide +kernel
theorem dX9_init_344 : decode cX9_init 344 = .ok (.putfield 126, 3) := by decide +kernel
theorem dX9_init_347 : decode cX9_init 347 = .ok (.aload_n 0, 1) := by decide +kernel
theorem dX9_init_348 : decode cX9_init 348 = .ok (.iconst 0, 1) := by decide +kernel
theorem dX9_init_349 : decode cX9_init 349 = .ok (.putfield 129, 3) := by decide +kernel
theorem dX9_init_352 : decode cX9_init 352 = .ok (.aload_n 0, 1) := by decide +kernel
theorem dX9_init_353 : decode cX9_init 353 = .ok (.bipush 12, 2) := by decide +kernel
theorem dX9_init_355 : decode cX9_init 355 = .ok (.newarray .int, 2) := by decide +kernel
theorem dX9_init_357 : decode cX9_init 357 = .ok (.putfield 132, 3) := by decide +kernel
theorem dX9_init_360 : decode cX9_init 360 = .ok (.aload_n 0, 1) := by decide +kernel
theorem dX9_init_361 : decode cX9_init 361 = .ok (.iconst 0, 1) := by decide +kernel
theorem dX9_init_362 : decode cX9_init 362 = .ok (.putfield 135, 3) := by decide +kernel
theorem dX9_init_365 : decode cX9_init 365 = .ok (.aload_n 0, 1) := by decide +kernel
theorem dX9_init_366 : decode cX9_init 366 = .ok (.iconst (-1), 1) := by decide +kernel
theorem dX9_init_367 : decode cX9_init 367 = .ok (.putfield 139, 3) := by decide +kernel
theorem dX9_init_370 : decode cX9_init 370 = .ok (.aload_n 0, 1) := by decide +kernel
theorem dX9_init_371 : decode cX9_init 371 = .ok (.iconst 0, 1) := by decide +kernel
theorem dX9_init_372 : decode cX9_init 372 = .ok (.putfield 142, 3) := by decide +kernel
theorem dX9_init_375 : decode cX9_init 375 = .ok (.aload_n 0, 1) := by decide +kernel
theorem dX9_init_376 : decode cX9_init 376 = .ok (.iconst 0, 1) := by decide +kernel
theorem dX9_init_377 : decode cX9_init 377 = .ok (.putfield 145, 3) := by decide +kernel
theorem dX9_init_380 : decode cX9_init 380 = .ok (.aload_n 0, 1) := by decide +kernel
theorem dX9_init_381 : decode cX9_init 381 = .ok (.iconst 0, 1) := by decide +kernel
theorem dX9_init_382 : decode cX9_init 382 = .ok (.putfield 148, 3) := by decide +kernel
theorem dX9_init_385 : decode cX9_init 385 = .ok (.aload_n 0, 1) := by decide +kernel
theorem dX9_init_386 : decode cX9_init 386 = .ok (.iconst 0, 1) := by decide +kernel
theorem dX9_init_387 : decode cX9_init 387 = .ok (.putfield 151, 3) := by decide +kernel
theorem dX9_init_390 : decode cX9_init 390 = .ok (.aload_n 0, 1) := by decide +kernel
theorem dX9_init_391 : decode cX9_init 391 = .ok (.bipush 6, 2) := by decide +kernel
theorem dX9_init_393 : decode cX9_init 393 = .ok (.newarray .int, 2) := by decide +kernel
theorem dX9_init_395 : decode cX9_init 395 = .ok (.putfield 154, 3) := by decide +kernel
theorem dX9_init_398 : decode cX9_init 398 = .ok (.aload_n 0, 1) := by decide +kernel
theorem dX9_init_399 : decode cX9_init 399 = .ok (.bipush 6, 2) := by decide +kernel
theorem dX9_init_401 : decode cX9_init 401 = .ok (.newarray .int, 2) := by decide +kernel
theorem dX9_init_403 : decode cX9_init 403 = .ok (.putfield 157, 3) := by decide +kernel
theorem dX9_init_406 : decode cX9_init 406 = .ok (.aload_n 0, 1) := by decide +kernel
theorem dX9_init_407 : decode cX9_init 407 = .ok (.bipush 6, 2) := by decide +kernel
theorem dX9_init_409 : decode cX9_init 409 = .ok (.newarray .int, 2) := by decide +kernel
theorem dX9_init_411 : decode cX9_init 411 = .ok (.putfield 160, 3) := by decide +kernel
theorem dX9_init_414 : decode cX9_init 414 = .ok (.aload_n 0, 1) := by decide +kernel
theorem dX9_init_415 : decode cX9_init 415 = .ok (.bipush 6, 2) := by decide +kernel
theorem dX9_init_417 : decode cX9_init 417 = .ok (.newarray .int, 2) := by decide +kernel
theorem dX9_init_419 : decode cX9_init 419 = .ok (.putfield 163, 3) := by decide +kernel
theorem dX9_init_422 : decode cX9_init 422 = .ok (.aload_n 0, 1) := by decide +kernel
theorem dX9_init_423 : decode cX9_init 423 = .ok (.bipush 6, 2) := by decide +kernel
theorem dX9_init_425 : decode cX9_init 425 = .ok (.newarray .int, 2) := by decide +kernel
theorem dX9_init_427 : decode cX9_init 427 = .ok (.putfield 166, 3) := by decide +kernel
theorem dX9_init_430 : decode cX9_init 430 = .ok (.aload_n 0, 1) := by decide +kernel
theorem dX9_init_431 : decode cX9_init 431 = .ok (.bipush 6, 2) := by decide +kernel
theorem dX9_init_433 : decode cX9_init 433 = .ok (.newarray .int, 2) := by decide +kernel
theorem dX9_init_435 : decode cX9_init 435 = .ok (.putfield 169, 3) := by decide +kernel
theorem dX9_init_438 : decode cX9_init 438 = .ok (.aload_n 0, 1) := by decide +kernel
theorem dX9_init_439 : decode cX9_init 439 = .ok (.bipush 24, 2) := by decide +kernel
theorem dX9_init_441 : decode cX9_init 441 = .ok (.newarray .int, 2) := by decide +kernel
theorem dX9_init_443 : decode cX9_init 443 = .ok (.putfield 172, 3) := by decide +kernel
theorem dX9_init_446 : decode cX9_init 446 = .ok (.aload_n 0, 1) := by decide +kernel
theorem dX9_init_447 : decode cX9_init 447 = .ok (.bipush 8, 2) := by decide +kernel
theorem dX9_init_449 : decode cX9_init 449 = .ok (.newarray .int, 2) := by decide +kernel
theorem dX9_init_451 : decode cX9_init 451 = .ok (.putfield 175, 3) := by decide +kernel
theorem dX9_init_454 : decode cX9_init 454 = .ok (.aload_n 0, 1) := by decide +kernel
theorem dX9_init_455 : decode cX9_init 455 = .ok (.bipush 8, 2) := by decide +kernel
theorem dX9_init_457 : decode cX9_init 457 = .ok (.newarray .int, 2) := by decide +kernel
theorem dX9_init_459 : decode cX9_init 459 = .ok (.putfield 178, 3) := by decide +kernel
theorem dX9_init_462 : decode cX9_init 462 = .ok (.aload_n 0, 1) := by decide +kernel
theorem dX9_init_463 : decode cX9_init 463 = .ok (.bipush 8, 2) := by decide +kernel
theorem dX9_init_465 : decode cX9_init 465 = .ok (.newarray .int, 2) := by decide +kernel
theorem dX9_init_467 : decode cX9_init 467 = .ok (.putfield 181, 3) := by decide +kernel
theorem dX9_init_470 : decode cX9_init 470 = .ok (.aload_n 0, 1) := by decide +kernel
theorem dX9_init_471 : decode cX9_init 471 = .ok (.bipush 12, 2) := by decide +kernel
theorem dX9_init_473 : decode cX9_init 473 = .ok (.newarray .int, 2) := by decide +kernel
theorem dX9_init_475 : decode cX9_init 475 = .ok (.putfield 184, 3) := by decide +kernel
theorem dX9_init_478 : decode cX9_init 478 = .ok (.aload_n 0, 1) := by decide +kernel
theorem dX9_init_479 : decode cX9_init 479 = .ok (.iconst 0, 1) := by decide +kernel
theorem dX9_init_480 : decode cX9_init 480 = .ok (.putfield 187, 3) := by decide +kernel
theorem dX9_init_483 : decode cX9_init 483 = .ok (.aload_n 0, 1) := by decide +kernel
theorem dX9_init_484 : decode cX9_init 484 = .ok (.bipush 20, 2) := by decide +kernel
theorem dX9_init_486 : decode cX9_init 486 = .ok (.newarray .int, 2) := by decide +kernel
theorem dX9_init_488 : decode cX9_init 488 = .ok (.putfield 190, 3) := by decide +kernel
theorem dX9_init_491 : decode cX9_init 491 = .ok (.aload_n 0, 1) := by decide +kernel
theorem dX9_init_492 : decode cX9_init 492 = .ok (.bipush 6, 2) := by decide +kernel
theorem dX9_init_494 : decode cX9_init 494 = .ok (.newarray .int, 2) := by decide +kernel
theorem dX9_init_496 : decode cX9_init 496 = .ok (.dup, 1) := by decide +kernel
theorem dX9_init_497 : decode cX9_init 497 = .ok (.iconst 0, 1) := by decide +kernel
theorem dX9_init_498 : decode cX9_init 498 = .ok (.iconst (-1), 1) := by decide +kernel
theorem dX9_init_499 : decode cX9_init 499 = .ok (.iastore, 1) := by decide +kernel
theorem dX9_init_500 : decode cX9_init 500 = .ok (.dup, 1) := by decide +kernel
theorem dX9_init_501 : decode cX9_init 501 = .ok (.iconst 1, 1) := by decide +kernel
theorem dX9_init_502 : decode cX9_init 502 = .ok (.iconst (-1), 1) := by decide +kernel
theorem dX9_init_503 : decode cX9_init 503 = .ok (.iastore, 1) := by decide +kernel
theorem dX9_init_504 : decode cX9_init 504 = .ok (.dup, 1) := by decide +kernel
theorem dX9_init_505 : decode cX9_init 505 = .ok (.iconst 2, 1) := by decide +kernel
theorem dX9_init_506 : decode cX9_init 506 = .ok (.iconst (-1), 1) := by decide +kernel
theorem dX9_init_507 : decode cX9_init 507 = .ok (.iastore, 1) := by decide +kernel
theorem dX9_init_508 : decode cX9_init 508 = .ok (.dup, 1) := by decide +kernel
theorem dX9_init_509 : decode cX9_init 509 = .ok (.iconst 3, 1) := by decide +kernel
theorem dX9_init_510 : decode cX9_init 510 = .ok (.iconst (-1), 1) := by decide +kernel
theorem dX9_init_511 : decode cX9_init 511 = .ok (.iastore, 1) := by decide +kernel
theorem dX9_init_512 : decode cX9_init 512 = .ok (.dup, 1) := by decide +kernel
theorem dX9_init_513 : decode cX9_init 513 = .ok (.iconst 4, 1) := by decide +kernel
theorem dX9_init_514 : decode cX9_init 514 = .ok (.iconst (-1), 1) := by decide +kernel
theorem dX9_init_515 : decode cX9_init 515 = .ok (.iastore, 1) := by decide +kernel
theorem dX9_init_516 : decode cX9_init 516 = .ok (.dup, 1) := by decide +kernel
theorem dX9_init_517 : decode cX9_init 517 = .ok (.iconst 5, 1) := by decide +kernel
theorem dX9_init_518 : decode cX9_init 518 = .ok (.iconst (-1), 1) := by decide +kernel
theorem dX9_init_519 : decode cX9_init 519 = .ok (.iastore, 1) := by decide +kernel
theorem dX9_init_520 : decode cX9_init 520 = .ok (.putfield 193, 3) := by decide +kernel
theorem dX9_init_523 : decode cX9_init 523 = .ok (.aload_n 0, 1) := by decide +kernel
theorem dX9_init_524 : decode cX9_init 524 = .ok (.bipush 6, 2) := by decide +kernel
theorem dX9_init_526 : decode cX9_init 526 = .ok (.newarray .int, 2) := by decide +kernel
theorem dX9_init_528 : decode cX9_init 528 = .ok (.putfield 196, 3) := by decide +kernel
theorem dX9_init_531 : decode cX9_init 531 = .ok (.aload_n 0, 1) := by decide +kernel
theorem dX9_init_532 : decode cX9_init 532 = .ok (.sipush 360, 3) := by decide +kernel
theorem dX9_init_535 : decode cX9_init 535 = .ok (.newarray .long, 2) := by decide +kernel
theorem dX9_init_537 : decode cX9_init 537 = .ok (.putfield 199, 3) := by decide +kernel
theorem dX9_init_540 : decode cX9_init 540 = .ok (.aload_n 0, 1) := by decide +kernel
theorem dX9_init_541 : decode cX9_init 541 = .ok (.bipush 60, 2) := by decide +kernel
theorem dX9_init_543 : decode cX9_init 543 = .ok (.newarray .long, 2) := by decide +kernel
theorem dX9_init_545 : decode cX9_init 545 = .ok (.putfield 203, 3) := by decide +kernel
theorem dX9_init_548 : decode cX9_init 548 = .ok (.return_, 1) := by decide +kernel
def pX9_init : List (List gm_A) := [[(gm_aload 0), gm_oinit, (gm_aload 0), (gm_push (.inl 0)), (gm_putI 9 900), (gm_aload 0), (gm_push (.inl 0)), (gm_putI 9 901), (gm_aload 0), (gm_push (.inl 6)), (gm_newarr 20), (gm_putR 9 902), (gm_aload 0), (gm_push (.inl 6)), (gm_newarr 20), (gm_putR 9 903), (gm_aload 0), (gm_push (.inl 6)), (gm_newarr 20), (gm_putR 9 904), (gm_aload 0), (gm_push (.inl 6)), (gm_newarr 20), (gm_putR 9 905), (gm_aload 0), (gm_push (.inl 6)), (gm_newarr 20), (gm_putR 9 906), (gm_aload 0), (gm_push (.inl 6)), (gm_newarr 20), (gm_putR 9 907), (gm_aload 0), (gm_push (.inl 24)), (gm_newarr 20), (gm_putR 9 908), (gm_aload 0), (gm_push (.inl 0)), (gm_putI 9 909), (gm_aload 0), (gm_push (.inl (-1))), (gm_putI 9 910), (gm_aload 0), (gm_push (.inl 0)), (gm_putI 9 911), (gm_aload 0), (gm_push (.inl 0)), (gm_putI 9 912), (gm_aload 0), (gm_push (.inl 0)), (gm_putI 9 913), (gm_aload 0), (gm_push (.inl 100)), (gm_newarr 20), (gm_putR 9 914), (gm_aload 0), (gm_push (.inl 6)), (gm_newarr 20), (gm_putR 9 915), (gm_aload 0), (gm_push (.inl 60)), (gm_newarr 20), (gm_putR 9 916), (gm_aload 0), (gm_push (.inl 60)), (gm_newarr 20), (gm_putR 9 917), (gm_aload 0), (gm_push (.inl 60)), (gm_newarr 20), (gm_putR 9 918), (gm_aload 0), (gm_push (.inl 60)), (gm_newarr 20), (gm_putR 9 919), (gm_aload 0), (gm_push (.inl 600)), (gm_newarr 20), (gm_putR 9 920), (gm_aload 0), (gm_push (.inl 101)), (gm_newarr 20), (gm_putR 9 921), (gm_aload 0), (gm_push (.inl 0)), (gm_putI 9 922), (gm_aload 0), (gm_push (.inl 0)), (gm_putI 9 923), (gm_aload 0), (gm_push (.inl 0)), (gm_putI 9 924), (gm_aload 0), (gm_push (.inl 14)), (gm_newarr 20), gm_dup, (gm_push (.inl 0)), (gm_push (.inl 115)), gm_iast, gm_dup, (gm_push (.inl 1)), (gm_push (.inl 117)), gm_iast, gm_dup, (gm_push (.inl 2)), (gm_push (.inl 110)), gm_iast, gm_dup, (gm_push (.inl 3)), (gm_push (.inl 99)), gm_iast, gm_dup, (gm_push (.inl 4)), (gm_push (.inl 111)), gm_iast, gm_dup, (gm_push (.inl 5)), (gm_push (.inl 108)), gm_iast, gm_dup, (gm_push (.inl 6)), (gm_push (.inl 100)), gm_iast, gm_dup, (gm_push (.inl 7)), (gm_push (.inl 108)), gm_iast, gm_dup, (gm_push (.inl 8)), (gm_push (.inl 111)), gm_iast, gm_dup, (gm_push (.inl 9)), (gm_push (.inl 119)), gm_iast, gm_dup, (gm_push (.inl 10)), (gm_push (.inl 104)), gm_iast, gm_dup, (gm_push (.inl 11)), (gm_push (.inl 105)), gm_iast, gm_dup, (gm_push (.inl 12)), (gm_push (.inl 103)), gm_iast, gm_dup, (gm_push (.inl 13)), (gm_push (.inl 104)), gm_iast, (gm_putR 9 925), (gm_aload 0), (gm_push (.inl 100)), (gm_newarr 23), (gm_putR 9 926), (gm_aload 0), (gm_push (.inl (-1))), (gm_putI 9 927), (gm_aload 0), (gm_push (.inl 0)), (gm_putI 9 928), (gm_aload 0), (gm_push (.inl (-1))), (gm_putI 9 929), (gm_aload 0), (gm_push (.inl (-1))), (gm_putI 9 930), (gm_aload 0), (gm_push (.inl 6)), (gm_newarr 20), (gm_putR 9 931), (gm_aload 0), (gm_push (.inl 6)), (gm_newarr 20), (gm_putR 9 932), (gm_aload 0), (gm_push (.inl 0)), (gm_putI 9 933), (gm_aload 0), (gm_push (.inl 6)), (gm_newarr 20), (gm_putR 9 934), (gm_aload 0), (gm_push (.inl 0)), (gm_putI 9 935), (gm_aload 0), (gm_push (.inl 8)), (gm_newarr 20), (gm_putR 9 936), (gm_aload 0), (gm_push (.inl 8)), (gm_newarr 20), (gm_putR 9 937), (gm_aload 0), (gm_push (.inl 8)), (gm_newarr 20), (gm_putR 9 938), (gm_aload 0), (gm_push (.inl 0)), (gm_putI 9 939), (gm_aload 0), (gm_push (.inl 12)), (gm_newarr 20), (gm_putR 9 940), (gm_aload 0), (gm_push (.inl 0)), (gm_putZ 9 941), (gm_aload 0), (gm_push (.inl (-1))), (gm_putI 9 942), (gm_aload 0), (gm_push (.inl 0)), (gm_putI 9 943), (gm_aload 0), (gm_push (.inl 0)), (gm_putI 9 944), (gm_aload 0), (gm_push (.inl 0)), (gm_putI 9 945), (gm_aload 0), (gm_push (.inl 0)), (gm_putI 9 946), (gm_aload 0), (gm_push (.inl 6)), (gm_newarr 20), (gm_putR 9 947), (gm_aload 0), (gm_push (.inl 6)), (gm_newarr 20), (gm_putR 9 948), (gm_aload 0), (gm_push (.inl 6)), (gm_newarr 20), (gm_putR 9 949), (gm_aload 0), (gm_push (.inl 6)), (gm_newarr 20), (gm_putR 9 950), (gm_aload 0), (gm_push (.inl 6)), (gm_newarr 20), (gm_putR 9 951), (gm_aload 0), (gm_push (.inl 6)), (gm_newarr 20), (gm_putR 9 952), (gm_aload 0), (gm_push (.inl 24)), (gm_newarr 20), (gm_putR 9 953), (gm_aload 0), (gm_push (.inl 8)), (gm_newarr 20), (gm_putR 9 954), (gm_aload 0), (gm_push (.inl 8)), (gm_newarr 20), (gm_putR 9 955), (gm_aload 0), (gm_push (.inl 8)), (gm_newarr 20), (gm_putR 9 956), (gm_aload 0), (gm_push (.inl 12)), (gm_newarr 20), (gm_putR 9 957), (gm_aload 0), (gm_push (.inl 0)), (gm_putI 9 958), (gm_aload 0), (gm_push (.inl 20)), (gm_newarr 20), (gm_putR 9 959), (gm_aload 0), (gm_push (.inl 6)), (gm_newarr 20), gm_dup, (gm_push (.inl 0)), (gm_push (.inl (-1))), gm_iast, gm_dup, (gm_push (.inl 1)), (gm_push (.inl (-1))), gm_iast, gm_dup, (gm_push (.inl 2)), (gm_push (.inl (-1))), gm_iast, gm_dup, (gm_push (.inl 3)), (gm_push (.inl (-1))), gm_iast, gm_dup, (gm_push (.inl 4)), (gm_push (.inl (-1))), gm_iast, gm_dup, (gm_push (.inl 5)), (gm_push (.inl (-1))), gm_iast, (gm_putR 9 960), (gm_aload 0), (gm_push (.inl 6)), (gm_newarr 20), (gm_putR 9 961), (gm_aload 0), (gm_push (.inl 360)), (gm_newarr 21), (gm_putR 9 962), (gm_aload 0), (gm_push (.inl 60)), (gm_newarr 21), (gm_putR 9 963), gm_vret]]
def bpX9_init : Nat → Nat := fun b => ([0] : List Nat).getD b 0
set_option maxRecDepth 100000 in
theorem tX9_init {D : va_G} {sz : Nat} {ad : Nat → Nat} {cA : Nat → ClassId} {xs : Int → Int} {Ln : Int} {l : Launch} : gm_SB D sz ad cA xs Ln l gm_mt cX9_init "LongNoonModel" 1 true 0 bpX9_init 0 pX9_init :=
  ⟨gm_cn 1 (gm_m_aload _) (gm_s_aload_n dX9_init_0 rfl) (
    gm_cn 4 gm_m_oinit (gm_s_oinit gw_214 gw_1 gw_2 dX9_init_1) (
    gm_cn 5 (gm_m_aload _) (gm_s_aload_n dX9_init_4 rfl) (
    gm_cn 6 (gm_m_push _) (gm_s_iconst dX9_init_5) (
    gm_cn 9 (gm_m_putI _ _) (gf_putI_9_0 gw_215 dX9_init_6) (
    gm_cn 10 (gm_m_aload _) (gm_s_aload_n dX9_init_9 rfl) (
    gm_cn 11 (gm_m_push _) (gm_s_iconst dX9_init_10) (
    gm_cn 14 (gm_m_putI _ _) (gf_putI_9_1 gw_216 dX9_init_11) (
    gm_cn 15 (gm_m_aload _) (gm_s_aload_n dX9_init_14 rfl) (
    gm_cn 17 (gm_m_push _) (gm_s_bipush dX9_init_15 rfl) (
    gm_cn 19 (gm_m_newarr _) (gm_s_newarr (atype := .int) (t0 := 0) (ty := .int) rfl gw_3 (fun _ => rfl) (Or.inr (Or.inl ⟨rfl, rfl⟩)) dX9_init_17) (
    gm_cn 22 (gm_m_putR _ _) (gf_putR_9_2 gw_217 dX9_init_19) (
    gm_cn 23 (gm_m_aload _) (gm_s_aload_n dX9_init_22 rfl) (
    gm_cn 25 (gm_m_push _) (gm_s_bipush dX9_init_23 rfl) (
    gm_cn 27 (gm_m_newarr _) (gm_s_newarr (atype := .int) (t0 := 0) (ty := .int) rfl gw_3 (fun _ => rfl) (Or.inr (Or.inl ⟨rfl, rfl⟩)) dX9_init_25) (
    gm_cn 30 (gm_m_putR _ _) (gf_putR_9_3 gw_218 dX9_init_27) (
    gm_cn 31 (gm_m_aload _) (gm_s_aload_n dX9_init_30 rfl) (
    gm_cn 33 (gm_m_push _) (gm_s_bipush dX9_init_31 rfl) (
    gm_cn 35 (gm_m_newarr _) (gm_s_newarr (atype := .int) (t0 := 0) (ty := .int) rfl gw_3 (fun _ => rfl) (Or.inr (Or.inl ⟨rfl, rfl⟩)) dX9_init_33) (
    gm_cn 38 (gm_m_putR _ _) (gf_putR_9_4 gw_219 dX9_init_35) (
    gm_cn 39 (gm_m_aload _) (gm_s_aload_n dX9_init_38 rfl) (
    gm_cn 41 (gm_m_push _) (gm_s_bipush dX9_init_39 rfl) (
    gm_cn 43 (gm_m_newarr _) (gm_s_newarr (atype := .int) (t0 := 0) (ty := .int) rfl gw_3 (fun _ => rfl) (Or.inr (Or.inl ⟨rfl, rfl⟩)) dX9_init_41) (
    gm_cn 46 (gm_m_putR _ _) (gf_putR_9_5 gw_220 dX9_init_43) (
    gm_cn 47 (gm_m_aload _) (gm_s_aload_n dX9_init_46 rfl) (
    gm_cn 49 (gm_m_push _) (gm_s_bipush dX9_init_47 rfl) (
    gm_cn 51 (gm_m_newarr _) (gm_s_newarr (atype := .int) (t0 := 0) (ty := .int) rfl gw_3 (fun _ => rfl) (Or.inr (Or.inl ⟨rfl, rfl⟩)) dX9_init_49) (
    gm_cn 54 (gm_m_putR _ _) (gf_putR_9_6 gw_221 dX9_init_51) (
    gm_cn 55 (gm_m_aload _) (gm_s_aload_n dX9_init_54 rfl) (
    gm_cn 57 (gm_m_push _) (gm_s_bipush dX9_init_55 rfl) (
    gm_cn 59 (gm_m_newarr _) (gm_s_newarr (atype := .int) (t0 := 0) (ty := .int) rfl gw_3 (fun _ => rfl) (Or.inr (Or.inl ⟨rfl, rfl⟩)) dX9_init_57) (
    gm_cn 62 (gm_m_putR _ _) (gf_putR_9_7 gw_222 dX9_init_59) (
    gm_cn 63 (gm_m_aload _) (gm_s_aload_n dX9_init_62 rfl) (
    gm_cn 65 (gm_m_push _) (gm_s_bipush dX9_init_63 rfl) (
    gm_cn 67 (gm_m_newarr _) (gm_s_newarr (atype := .int) (t0 := 0) (ty := .int) rfl gw_3 (fun _ => rfl) (Or.inr (Or.inl ⟨rfl, rfl⟩)) dX9_init_65) (
    gm_cn 70 (gm_m_putR _ _) (gf_putR_9_8 gw_223 dX9_init_67) (
    gm_cn 71 (gm_m_aload _) (gm_s_aload_n dX9_init_70 rfl) (
    gm_cn 72 (gm_m_push _) (gm_s_iconst dX9_init_71) (
    gm_cn 75 (gm_m_putI _ _) (gf_putI_9_9 gw_224 dX9_init_72) (
    gm_cn 76 (gm_m_aload _) (gm_s_aload_n dX9_init_75 rfl) (
    gm_cn 77 (gm_m_push _) (gm_s_iconst dX9_init_76) (
    gm_cn 80 (gm_m_putI _ _) (gf_putI_9_10 gw_225 dX9_init_77) (
    gm_cn 81 (gm_m_aload _) (gm_s_aload_n dX9_init_80 rfl) (
    gm_cn 82 (gm_m_push _) (gm_s_iconst dX9_init_81) (
    gm_cn 85 (gm_m_putI _ _) (gf_putI_9_11 gw_226 dX9_init_82) (
    gm_cn 86 (gm_m_aload _) (gm_s_aload_n dX9_init_85 rfl) (
    gm_cn 87 (gm_m_push _) (gm_s_iconst dX9_init_86) (
    gm_cn 90 (gm_m_putI _ _) (gf_putI_9_12 gw_227 dX9_init_87) (
    gm_cn 91 (gm_m_aload _) (gm_s_aload_n dX9_init_90 rfl) (
    gm_cn 92 (gm_m_push _) (gm_s_iconst dX9_init_91) (
    gm_cn 95 (gm_m_putI _ _) (gf_putI_9_13 gw_228 dX9_init_92) (
    gm_cn 96 (gm_m_aload _) (gm_s_aload_n dX9_init_95 rfl) (
    gm_cn 98 (gm_m_push _) (gm_s_bipush dX9_init_96 rfl) (
    gm_cn 100 (gm_m_newarr _) (gm_s_newarr (atype := .int) (t0 := 0) (ty := .int) rfl gw_3 (fun _ => rfl) (Or.inr (Or.inl ⟨rfl, rfl⟩)) dX9_init_98) (
    gm_cn 103 (gm_m_putR _ _) (gf_putR_9_14 gw_229 dX9_init_100) (
    gm_cn 104 (gm_m_aload _) (gm_s_aload_n dX9_init_103 rfl) (
    gm_cn 106 (gm_m_push _) (gm_s_bipush dX9_init_104 rfl) (
    gm_cn 108 (gm_m_newarr _) (gm_s_newarr (atype := .int) (t0 := 0) (ty := .int) rfl gw_3 (fun _ => rfl) (Or.inr (Or.inl ⟨rfl, rfl⟩)) dX9_init_106) (
    gm_cn 111 (gm_m_putR _ _) (gf_putR_9_15 gw_230 dX9_init_108) (
    gm_cn 112 (gm_m_aload _) (gm_s_aload_n dX9_init_111 rfl) (
    gm_cn 114 (gm_m_push _) (gm_s_bipush dX9_init_112 rfl) (
    gm_cn 116 (gm_m_newarr _) (gm_s_newarr (atype := .int) (t0 := 0) (ty := .int) rfl gw_3 (fun _ => rfl) (Or.inr (Or.inl ⟨rfl, rfl⟩)) dX9_init_114) (
    gm_cn 119 (gm_m_putR _ _) (gf_putR_9_16 gw_231 dX9_init_116) (
    gm_cn 120 (gm_m_aload _) (gm_s_aload_n dX9_init_119 rfl) (
    gm_cn 122 (gm_m_push _) (gm_s_bipush dX9_init_120 rfl) (
    gm_cn 124 (gm_m_newarr _) (gm_s_newarr (atype := .int) (t0 := 0) (ty := .int) rfl gw_3 (fun _ => rfl) (Or.inr (Or.inl ⟨rfl, rfl⟩)) dX9_init_122) (
    gm_cn 127 (gm_m_putR _ _) (gf_putR_9_17 gw_232 dX9_init_124) (
    gm_cn 128 (gm_m_aload _) (gm_s_aload_n dX9_init_127 rfl) (
    gm_cn 130 (gm_m_push _) (gm_s_bipush dX9_init_128 rfl) (
    gm_cn 132 (gm_m_newarr _) (gm_s_newarr (atype := .int) (t0 := 0) (ty := .int) rfl gw_3 (fun _ => rfl) (Or.inr (Or.inl ⟨rfl, rfl⟩)) dX9_init_130) (
    gm_cn 135 (gm_m_putR _ _) (gf_putR_9_18 gw_233 dX9_init_132) (
    gm_cn 136 (gm_m_aload _) (gm_s_aload_n dX9_init_135 rfl) (
    gm_cn 138 (gm_m_push _) (gm_s_bipush dX9_init_136 rfl) (
    gm_cn 140 (gm_m_newarr _) (gm_s_newarr (atype := .int) (t0 := 0) (ty := .int) rfl gw_3 (fun _ => rfl) (Or.inr (Or.inl ⟨rfl, rfl⟩)) dX9_init_138) (
    gm_cn 143 (gm_m_putR _ _) (gf_putR_9_19 gw_234 dX9_init_140) (
    gm_cn 144 (gm_m_aload _) (gm_s_aload_n dX9_init_143 rfl) (
    gm_cn 147 (gm_m_push _) (gm_s_sipush dX9_init_144 rfl) (
    gm_cn 149 (gm_m_newarr _) (gm_s_newarr (atype := .int) (t0 := 0) (ty := .int) rfl gw_3 (fun _ => rfl) (Or.inr (Or.inl ⟨rfl, rfl⟩)) dX9_init_147) (
    gm_cn 152 (gm_m_putR _ _) (gf_putR_9_20 gw_235 dX9_init_149) (
    gm_cn 153 (gm_m_aload _) (gm_s_aload_n dX9_init_152 rfl) (
    gm_cn 155 (gm_m_push _) (gm_s_bipush dX9_init_153 rfl) (
    gm_cn 157 (gm_m_newarr _) (gm_s_newarr (atype := .int) (t0 := 0) (ty := .int) rfl gw_3 (fun _ => rfl) (Or.inr (Or.inl ⟨rfl, rfl⟩)) dX9_init_155) (
    gm_cn 160 (gm_m_putR _ _) (gf_putR_9_21 gw_236 dX9_init_157) (
    gm_cn 161 (gm_m_aload _) (gm_s_aload_n dX9_init_160 rfl) (
    gm_cn 162 (gm_m_push _) (gm_s_iconst dX9_init_161) (
    gm_cn 165 (gm_m_putI _ _) (gf_putI_9_22 gw_237 dX9_init_162) (
    gm_cn 166 (gm_m_aload _) (gm_s_aload_n dX9_init_165 rfl) (
    gm_cn 167 (gm_m_push _) (gm_s_iconst dX9_init_166) (
    gm_cn 170 (gm_m_putI _ _) (gf_putI_9_23 gw_238 dX9_init_167) (
    gm_cn 171 (gm_m_aload _) (gm_s_aload_n dX9_init_170 rfl) (
    gm_cn 172 (gm_m_push _) (gm_s_iconst dX9_init_171) (
    gm_cn 175 (gm_m_putI _ _) (gf_putI_9_24 gw_239 dX9_init_172) (
    gm_cn 176 (gm_m_aload _) (gm_s_aload_n dX9_init_175 rfl) (
    gm_cn 178 (gm_m_push _) (gm_s_bipush dX9_init_176 rfl) (
    gm_cn 180 (gm_m_newarr _) (gm_s_newarr (atype := .int) (t0 := 0) (ty := .int) rfl gw_3 (fun _ => rfl) (Or.inr (Or.inl ⟨rfl, rfl⟩)) dX9_init_178) (
    gm_cn 181 gm_m_dup (gm_s_dup dX9_init_180) (
    gm_cn 182 (gm_m_push _) (gm_s_iconst dX9_init_181) (
    gm_cn 184 (gm_m_push _) (gm_s_bipush dX9_init_182 rfl) (
    gm_cn 185 gm_m_iast (gm_s_iast dX9_init_184) (
    gm_cn 186 gm_m_dup (gm_s_dup dX9_init_185) (
    gm_cn 187 (gm_m_push _) (gm_s_iconst dX9_init_186) (
    gm_cn 189 (gm_m_push _) (gm_s_bipush dX9_init_187 rfl) (
    gm_cn 190 gm_m_iast (gm_s_iast dX9_init_189) (
    gm_cn 191 gm_m_dup (gm_s_dup dX9_init_190) (
    gm_cn 192 (gm_m_push _) (gm_s_iconst dX9_init_191) (
    gm_cn 194 (gm_m_push _) (gm_s_bipush dX9_init_192 rfl) (
    gm_cn 195 gm_m_iast (gm_s_iast dX9_init_194) (
    gm_cn 196 gm_m_dup (gm_s_dup dX9_init_195) (
    gm_cn 197 (gm_m_push _) (gm_s_iconst dX9_init_196) (
    gm_cn 199 (gm_m_push _) (gm_s_bipush dX9_init_197 rfl) (
    gm_cn 200 gm_m_iast (gm_s_iast dX9_init_199) (
    gm_cn 201 gm_m_dup (gm_s_dup dX9_init_200) (
    gm_cn 202 (gm_m_push _) (gm_s_iconst dX9_init_201) (
    gm_cn 204 (gm_m_push _) (gm_s_bipush dX9_init_202 rfl) (
    gm_cn 205 gm_m_iast (gm_s_iast dX9_init_204) (
    gm_cn 206 gm_m_dup (gm_s_dup dX9_init_205) (
    gm_cn 207 (gm_m_push _) (gm_s_iconst dX9_init_206) (
    gm_cn 209 (gm_m_push _) (gm_s_bipush dX9_init_207 rfl) (
    gm_cn 210 gm_m_iast (gm_s_iast dX9_init_209) (
    gm_cn 211 gm_m_dup (gm_s_dup dX9_init_210) (
    gm_cn 213 (gm_m_push _) (gm_s_bipush dX9_init_211 rfl) (
    gm_cn 215 (gm_m_push _) (gm_s_bipush dX9_init_213 rfl) (
    gm_cn 216 gm_m_iast (gm_s_iast dX9_init_215) (
    gm_cn 217 gm_m_dup (gm_s_dup dX9_init_216) (
    gm_cn 219 (gm_m_push _) (gm_s_bipush dX9_init_217 rfl) (
    gm_cn 221 (gm_m_push _) (gm_s_bipush dX9_init_219 rfl) (
    gm_cn 222 gm_m_iast (gm_s_iast dX9_init_221) (
    gm_cn 223 gm_m_dup (gm_s_dup dX9_init_222) (
    gm_cn 225 (gm_m_push _) (gm_s_bipush dX9_init_223 rfl) (
    gm_cn 227 (gm_m_push _) (gm_s_bipush dX9_init_225 rfl) (
    gm_cn 228 gm_m_iast (gm_s_iast dX9_init_227) (
    gm_cn 229 gm_m_dup (gm_s_dup dX9_init_228) (
    gm_cn 231 (gm_m_push _) (gm_s_bipush dX9_init_229 rfl) (
    gm_cn 233 (gm_m_push _) (gm_s_bipush dX9_init_231 rfl) (
    gm_cn 234 gm_m_iast (gm_s_iast dX9_init_233) (
    gm_cn 235 gm_m_dup (gm_s_dup dX9_init_234) (
    gm_cn 237 (gm_m_push _) (gm_s_bipush dX9_init_235 rfl) (
    gm_cn 239 (gm_m_push _) (gm_s_bipush dX9_init_237 rfl) (
    gm_cn 240 gm_m_iast (gm_s_iast dX9_init_239) (
    gm_cn 241 gm_m_dup (gm_s_dup dX9_init_240) (
    gm_cn 243 (gm_m_push _) (gm_s_bipush dX9_init_241 rfl) (
    gm_cn 245 (gm_m_push _) (gm_s_bipush dX9_init_243 rfl) (
    gm_cn 246 gm_m_iast (gm_s_iast dX9_init_245) (
    gm_cn 247 gm_m_dup (gm_s_dup dX9_init_246) (
    gm_cn 249 (gm_m_push _) (gm_s_bipush dX9_init_247 rfl) (
    gm_cn 251 (gm_m_push _) (gm_s_bipush dX9_init_249 rfl) (
    gm_cn 252 gm_m_iast (gm_s_iast dX9_init_251) (
    gm_cn 253 gm_m_dup (gm_s_dup dX9_init_252) (
    gm_cn 255 (gm_m_push _) (gm_s_bipush dX9_init_253 rfl) (
    gm_cn 257 (gm_m_push _) (gm_s_bipush dX9_init_255 rfl) (
    gm_cn 258 gm_m_iast (gm_s_iast dX9_init_257) (
    gm_cn 261 (gm_m_putR _ _) (gf_putR_9_25 gw_240 dX9_init_258) (
    gm_cn 262 (gm_m_aload _) (gm_s_aload_n dX9_init_261 rfl) (
    gm_cn 264 (gm_m_push _) (gm_s_bipush dX9_init_262 rfl) (
    gm_cn 266 (gm_m_newarr _) (gm_s_newarr (atype := .boolean) (t0 := 3) (ty := .boolean) rfl gw_241 (fun _ => rfl) (Or.inr (Or.inr (Or.inr ⟨rfl, rfl⟩))) dX9_init_264) (
    gm_cn 269 (gm_m_putR _ _) (gf_putR_9_26 gw_242 dX9_init_266) (
    gm_cn 270 (gm_m_aload _) (gm_s_aload_n dX9_init_269 rfl) (
    gm_cn 271 (gm_m_push _) (gm_s_iconst dX9_init_270) (
    gm_cn 274 (gm_m_putI _ _) (gf_putI_9_27 gw_243 dX9_init_271) (
    gm_cn 275 (gm_m_aload _) (gm_s_aload_n dX9_init_274 rfl) (
    gm_cn 276 (gm_m_push _) (gm_s_iconst dX9_init_275) (
    gm_cn 279 (gm_m_putI _ _) (gf_putI_9_28 gw_244 dX9_init_276) (
    gm_cn 280 (gm_m_aload _) (gm_s_aload_n dX9_init_279 rfl) (
    gm_cn 281 (gm_m_push _) (gm_s_iconst dX9_init_280) (
    gm_cn 284 (gm_m_putI _ _) (gf_putI_9_29 gw_245 dX9_init_281) (
    gm_cn 285 (gm_m_aload _) (gm_s_aload_n dX9_init_284 rfl) (
    gm_cn 286 (gm_m_push _) (gm_s_iconst dX9_init_285) (
    gm_cn 289 (gm_m_putI _ _) (gf_putI_9_30 gw_246 dX9_init_286) (
    gm_cn 290 (gm_m_aload _) (gm_s_aload_n dX9_init_289 rfl) (
    gm_cn 292 (gm_m_push _) (gm_s_bipush dX9_init_290 rfl) (
    gm_cn 294 (gm_m_newarr _) (gm_s_newarr (atype := .int) (t0 := 0) (ty := .int) rfl gw_3 (fun _ => rfl) (Or.inr (Or.inl ⟨rfl, rfl⟩)) dX9_init_292) (
    gm_cn 297 (gm_m_putR _ _) (gf_putR_9_31 gw_247 dX9_init_294) (
    gm_cn 298 (gm_m_aload _) (gm_s_aload_n dX9_init_297 rfl) (
    gm_cn 300 (gm_m_push _) (gm_s_bipush dX9_init_298 rfl) (
    gm_cn 302 (gm_m_newarr _) (gm_s_newarr (atype := .int) (t0 := 0) (ty := .int) rfl gw_3 (fun _ => rfl) (Or.inr (Or.inl ⟨rfl, rfl⟩)) dX9_init_300) (
    gm_cn 305 (gm_m_putR _ _) (gf_putR_9_32 gw_248 dX9_init_302) (
    gm_cn 306 (gm_m_aload _) (gm_s_aload_n dX9_init_305 rfl) (
    gm_cn 307 (gm_m_push _) (gm_s_iconst dX9_init_306) (
    gm_cn 310 (gm_m_putI _ _) (gf_putI_9_33 gw_249 dX9_init_307) (
    gm_cn 311 (gm_m_aload _) (gm_s_aload_n dX9_init_310 rfl) (
    gm_cn 313 (gm_m_push _) (gm_s_bipush dX9_init_311 rfl) (
    gm_cn 315 (gm_m_newarr _) (gm_s_newarr (atype := .int) (t0 := 0) (ty := .int) rfl gw_3 (fun _ => rfl) (Or.inr (Or.inl ⟨rfl, rfl⟩)) dX9_init_313) (
    gm_cn 318 (gm_m_putR _ _) (gf_putR_9_34 gw_250 dX9_init_315) (
    gm_cn 319 (gm_m_aload _) (gm_s_aload_n dX9_init_318 rfl) (
    gm_cn 320 (gm_m_push _) (gm_s_iconst dX9_init_319) (
    gm_cn 323 (gm_m_putI _ _) (gf_putI_9_35 gw_251 dX9_init_320) (
    gm_cn 324 (gm_m_aload _) (gm_s_aload_n dX9_init_323 rfl) (
    gm_cn 326 (gm_m_push _) (gm_s_bipush dX9_init_324 rfl) (
    gm_cn 328 (gm_m_newarr _) (gm_s_newarr (atype := .int) (t0 := 0) (ty := .int) rfl gw_3 (fun _ => rfl) (Or.inr (Or.inl ⟨rfl, rfl⟩)) dX9_init_326) (
    gm_cn 331 (gm_m_putR _ _) (gf_putR_9_36 gw_252 dX9_init_328) (
    gm_cn 332 (gm_m_aload _) (gm_s_aload_n dX9_init_331 rfl) (
    gm_cn 334 (gm_m_push _) (gm_s_bipush dX9_init_332 rfl) (
    gm_cn 336 (gm_m_newarr _) (gm_s_newarr (atype := .int) (t0 := 0) (ty := .int) rfl gw_3 (fun _ => rfl) (Or.inr (Or.inl ⟨rfl, rfl⟩)) dX9_init_334) (
    gm_cn 339 (gm_m_putR _ _) (gf_putR_9_37 gw_253 dX9_init_336) (
    gm_cn 340 (gm_m_aload _) (gm_s_aload_n dX9_init_339 rfl) (
    gm_cn 342 (gm_m_push _) (gm_s_bipush dX9_init_340 rfl) (
    gm_cn 344 (gm_m_newarr _) (gm_s_newarr (atype := .int) (t0 := 0) (ty := .int) rfl gw_3 (fun _ => rfl) (Or.inr (Or.inl ⟨rfl, rfl⟩)) dX9_init_342) (
    gm_cn 347 (gm_m_putR _ _) (gf_putR_9_38 gw_254 dX9_init_344) (
    gm_cn 348 (gm_m_aload _) (gm_s_aload_n dX9_init_347 rfl) (
    gm_cn 349 (gm_m_push _) (gm_s_iconst dX9_init_348) (
    gm_cn 352 (gm_m_putI _ _) (gf_putI_9_39 gw_255 dX9_init_349) (
    gm_cn 353 (gm_m_aload _) (gm_s_aload_n dX9_init_352 rfl) (
    gm_cn 355 (gm_m_push _) (gm_s_bipush dX9_init_353 rfl) (
    gm_cn 357 (gm_m_newarr _) (gm_s_newarr (atype := .int) (t0 := 0) (ty := .int) rfl gw_3 (fun _ => rfl) (Or.inr (Or.inl ⟨rfl, rfl⟩)) dX9_init_355) (
    gm_cn 360 (gm_m_putR _ _) (gf_putR_9_40 gw_256 dX9_init_357) (
    gm_cn 361 (gm_m_aload _) (gm_s_aload_n dX9_init_360 rfl) (
    gm_cn 362 (gm_m_push _) (gm_s_iconst dX9_init_361) (
    gm_cn 365 (gm_m_putZ _ _) (gf_putZ_9_41 gw_257 dX9_init_362) (
    gm_cn 366 (gm_m_aload _) (gm_s_aload_n dX9_init_365 rfl) (
    gm_cn 367 (gm_m_push _) (gm_s_iconst dX9_init_366) (
    gm_cn 370 (gm_m_putI _ _) (gf_putI_9_42 gw_258 dX9_init_367) (
    gm_cn 371 (gm_m_aload _) (gm_s_aload_n dX9_init_370 rfl) (
    gm_cn 372 (gm_m_push _) (gm_s_iconst dX9_init_371) (
    gm_cn 375 (gm_m_putI _ _) (gf_putI_9_43 gw_259 dX9_init_372) (
    gm_cn 376 (gm_m_aload _) (gm_s_aload_n dX9_init_375 rfl) (
    gm_cn 377 (gm_m_push _) (gm_s_iconst dX9_init_376) (
    gm_cn 380 (gm_m_putI _ _) (gf_putI_9_44 gw_260 dX9_init_377) (
    gm_cn 381 (gm_m_aload _) (gm_s_aload_n dX9_init_380 rfl) (
    gm_cn 382 (gm_m_push _) (gm_s_iconst dX9_init_381) (
    gm_cn 385 (gm_m_putI _ _) (gf_putI_9_45 gw_261 dX9_init_382) (
    gm_cn 386 (gm_m_aload _) (gm_s_aload_n dX9_init_385 rfl) (
    gm_cn 387 (gm_m_push _) (gm_s_iconst dX9_init_386) (
    gm_cn 390 (gm_m_putI _ _) (gf_putI_9_46 gw_262 dX9_init_387) (
    gm_cn 391 (gm_m_aload _) (gm_s_aload_n dX9_init_390 rfl) (
    gm_cn 393 (gm_m_push _) (gm_s_bipush dX9_init_391 rfl) (
    gm_cn 395 (gm_m_newarr _) (gm_s_newarr (atype := .int) (t0 := 0) (ty := .int) rfl gw_3 (fun _ => rfl) (Or.inr (Or.inl ⟨rfl, rfl⟩)) dX9_init_393) (
    gm_cn 398 (gm_m_putR _ _) (gf_putR_9_47 gw_263 dX9_init_395) (
    gm_cn 399 (gm_m_aload _) (gm_s_aload_n dX9_init_398 rfl) (
    gm_cn 401 (gm_m_push _) (gm_s_bipush dX9_init_399 rfl) (
    gm_cn 403 (gm_m_newarr _) (gm_s_newarr (atype := .int) (t0 := 0) (ty := .int) rfl gw_3 (fun _ => rfl) (Or.inr (Or.inl ⟨rfl, rfl⟩)) dX9_init_401) (
    gm_cn 406 (gm_m_putR _ _) (gf_putR_9_48 gw_264 dX9_init_403) (
    gm_cn 407 (gm_m_aload _) (gm_s_aload_n dX9_init_406 rfl) (
    gm_cn 409 (gm_m_push _) (gm_s_bipush dX9_init_407 rfl) (
    gm_cn 411 (gm_m_newarr _) (gm_s_newarr (atype := .int) (t0 := 0) (ty := .int) rfl gw_3 (fun _ => rfl) (Or.inr (Or.inl ⟨rfl, rfl⟩)) dX9_init_409) (
    gm_cn 414 (gm_m_putR _ _) (gf_putR_9_49 gw_265 dX9_init_411) (
    gm_cn 415 (gm_m_aload _) (gm_s_aload_n dX9_init_414 rfl) (
    gm_cn 417 (gm_m_push _) (gm_s_bipush dX9_init_415 rfl) (
    gm_cn 419 (gm_m_newarr _) (gm_s_newarr (atype := .int) (t0 := 0) (ty := .int) rfl gw_3 (fun _ => rfl) (Or.inr (Or.inl ⟨rfl, rfl⟩)) dX9_init_417) (
    gm_cn 422 (gm_m_putR _ _) (gf_putR_9_50 gw_266 dX9_init_419) (
    gm_cn 423 (gm_m_aload _) (gm_s_aload_n dX9_init_422 rfl) (
    gm_cn 425 (gm_m_push _) (gm_s_bipush dX9_init_423 rfl) (
    gm_cn 427 (gm_m_newarr _) (gm_s_newarr (atype := .int) (t0 := 0) (ty := .int) rfl gw_3 (fun _ => rfl) (Or.inr (Or.inl ⟨rfl, rfl⟩)) dX9_init_425) (
    gm_cn 430 (gm_m_putR _ _) (gf_putR_9_51 gw_267 dX9_init_427) (
    gm_cn 431 (gm_m_aload _) (gm_s_aload_n dX9_init_430 rfl) (
    gm_cn 433 (gm_m_push _) (gm_s_bipush dX9_init_431 rfl) (
    gm_cn 435 (gm_m_newarr _) (gm_s_newarr (atype := .int) (t0 := 0) (ty := .int) rfl gw_3 (fun _ => rfl) (Or.inr (Or.inl ⟨rfl, rfl⟩)) dX9_init_433) (
    gm_cn 438 (gm_m_putR _ _) (gf_putR_9_52 gw_268 dX9_init_435) (
    gm_cn 439 (gm_m_aload _) (gm_s_aload_n dX9_init_438 rfl) (
    gm_cn 441 (gm_m_push _) (gm_s_bipush dX9_init_439 rfl) (
    gm_cn 443 (gm_m_newarr _) (gm_s_newarr (atype := .int) (t0 := 0) (ty := .int) rfl gw_3 (fun _ => rfl) (Or.inr (Or.inl ⟨rfl, rfl⟩)) dX9_init_441) (
    gm_cn 446 (gm_m_putR _ _) (gf_putR_9_53 gw_269 dX9_init_443) (
    gm_cn 447 (gm_m_aload _) (gm_s_aload_n dX9_init_446 rfl) (
    gm_cn 449 (gm_m_push _) (gm_s_bipush dX9_init_447 rfl) (
    gm_cn 451 (gm_m_newarr _) (gm_s_newarr (atype := .int) (t0 := 0) (ty := .int) rfl gw_3 (fun _ => rfl) (Or.inr (Or.inl ⟨rfl, rfl⟩)) dX9_init_449) (
    gm_cn 454 (gm_m_putR _ _) (gf_putR_9_54 gw_270 dX9_init_451) (
    gm_cn 455 (gm_m_aload _) (gm_s_aload_n dX9_init_454 rfl) (
    gm_cn 457 (gm_m_push _) (gm_s_bipush dX9_init_455 rfl) (
    gm_cn 459 (gm_m_newarr _) (gm_s_newarr (atype := .int) (t0 := 0) (ty := .int) rfl gw_3 (fun _ => rfl) (Or.inr (Or.inl ⟨rfl, rfl⟩)) dX9_init_457) (
    gm_cn 462 (gm_m_putR _ _) (gf_putR_9_55 gw_271 dX9_init_459) (
    gm_cn 463 (gm_m_aload _) (gm_s_aload_n dX9_init_462 rfl) (
    gm_cn 465 (gm_m_push _) (gm_s_bipush dX9_init_463 rfl) (
    gm_cn 467 (gm_m_newarr _) (gm_s_newarr (atype := .int) (t0 := 0) (ty := .int) rfl gw_3 (fun _ => rfl) (Or.inr (Or.inl ⟨rfl, rfl⟩)) dX9_init_465) (
    gm_cn 470 (gm_m_putR _ _) (gf_putR_9_56 gw_272 dX9_init_467) (
    gm_cn 471 (gm_m_aload _) (gm_s_aload_n dX9_init_470 rfl) (
    gm_cn 473 (gm_m_push _) (gm_s_bipush dX9_init_471 rfl) (
    gm_cn 475 (gm_m_newarr _) (gm_s_newarr (atype := .int) (t0 := 0) (ty := .int) rfl gw_3 (fun _ => rfl) (Or.inr (Or.inl ⟨rfl, rfl⟩)) dX9_init_473) (
    gm_cn 478 (gm_m_putR _ _) (gf_putR_9_57 gw_273 dX9_init_475) (
    gm_cn 479 (gm_m_aload _) (gm_s_aload_n dX9_init_478 rfl) (
    gm_cn 480 (gm_m_push _) (gm_s_iconst dX9_init_479) (
    gm_cn 483 (gm_m_putI _ _) (gf_putI_9_58 gw_274 dX9_init_480) (
    gm_cn 484 (gm_m_aload _) (gm_s_aload_n dX9_init_483 rfl) (
    gm_cn 486 (gm_m_push _) (gm_s_bipush dX9_init_484 rfl) (
    gm_cn 488 (gm_m_newarr _) (gm_s_newarr (atype := .int) (t0 := 0) (ty := .int) rfl gw_3 (fun _ => rfl) (Or.inr (Or.inl ⟨rfl, rfl⟩)) dX9_init_486) (
    gm_cn 491 (gm_m_putR _ _) (gf_putR_9_59 gw_275 dX9_init_488) (
    gm_cn 492 (gm_m_aload _) (gm_s_aload_n dX9_init_491 rfl) (
    gm_cn 494 (gm_m_push _) (gm_s_bipush dX9_init_492 rfl) (
    gm_cn 496 (gm_m_newarr _) (gm_s_newarr (atype := .int) (t0 := 0) (ty := .int) rfl gw_3 (fun _ => rfl) (Or.inr (Or.inl ⟨rfl, rfl⟩)) dX9_init_494) (
    gm_cn 497 gm_m_dup (gm_s_dup dX9_init_496) (
    gm_cn 498 (gm_m_push _) (gm_s_iconst dX9_init_497) (
    gm_cn 499 (gm_m_push _) (gm_s_iconst dX9_init_498) (
    gm_cn 500 gm_m_iast (gm_s_iast dX9_init_499) (
    gm_cn 501 gm_m_dup (gm_s_dup dX9_init_500) (
    gm_cn 502 (gm_m_push _) (gm_s_iconst dX9_init_501) (
    gm_cn 503 (gm_m_push _) (gm_s_iconst dX9_init_502) (
    gm_cn 504 gm_m_iast (gm_s_iast dX9_init_503) (
    gm_cn 505 gm_m_dup (gm_s_dup dX9_init_504) (
    gm_cn 506 (gm_m_push _) (gm_s_iconst dX9_init_505) (
    gm_cn 507 (gm_m_push _) (gm_s_iconst dX9_init_506) (
    gm_cn 508 gm_m_iast (gm_s_iast dX9_init_507) (
    gm_cn 509 gm_m_dup (gm_s_dup dX9_init_508) (
    gm_cn 510 (gm_m_push _) (gm_s_iconst dX9_init_509) (
    gm_cn 511 (gm_m_push _) (gm_s_iconst dX9_init_510) (
    gm_cn 512 gm_m_iast (gm_s_iast dX9_init_511) (
    gm_cn 513 gm_m_dup (gm_s_dup dX9_init_512) (
    gm_cn 514 (gm_m_push _) (gm_s_iconst dX9_init_513) (
    gm_cn 515 (gm_m_push _) (gm_s_iconst dX9_init_514) (
    gm_cn 516 gm_m_iast (gm_s_iast dX9_init_515) (
    gm_cn 517 gm_m_dup (gm_s_dup dX9_init_516) (
    gm_cn 518 (gm_m_push _) (gm_s_iconst dX9_init_517) (
    gm_cn 519 (gm_m_push _) (gm_s_iconst dX9_init_518) (
    gm_cn 520 gm_m_iast (gm_s_iast dX9_init_519) (
    gm_cn 523 (gm_m_putR _ _) (gf_putR_9_60 gw_276 dX9_init_520) (
    gm_cn 524 (gm_m_aload _) (gm_s_aload_n dX9_init_523 rfl) (
    gm_cn 526 (gm_m_push _) (gm_s_bipush dX9_init_524 rfl) (
    gm_cn 528 (gm_m_newarr _) (gm_s_newarr (atype := .int) (t0 := 0) (ty := .int) rfl gw_3 (fun _ => rfl) (Or.inr (Or.inl ⟨rfl, rfl⟩)) dX9_init_526) (
    gm_cn 531 (gm_m_putR _ _) (gf_putR_9_61 gw_277 dX9_init_528) (
    gm_cn 532 (gm_m_aload _) (gm_s_aload_n dX9_init_531 rfl) (
    gm_cn 535 (gm_m_push _) (gm_s_sipush dX9_init_532 rfl) (
    gm_cn 537 (gm_m_newarr _) (gm_s_newarr (atype := .long) (t0 := 1) (ty := .long) rfl gw_99 (fun _ => rfl) (Or.inl ⟨rfl, rfl⟩) dX9_init_535) (
    gm_cn 540 (gm_m_putR _ _) (gf_putR_9_62 gw_278 dX9_init_537) (
    gm_cn 541 (gm_m_aload _) (gm_s_aload_n dX9_init_540 rfl) (
    gm_cn 543 (gm_m_push _) (gm_s_bipush dX9_init_541 rfl) (
    gm_cn 545 (gm_m_newarr _) (gm_s_newarr (atype := .long) (t0 := 1) (ty := .long) rfl gw_99 (fun _ => rfl) (Or.inl ⟨rfl, rfl⟩) dX9_init_543) (
    gm_cn 548 (gm_m_putR _ _) (gf_putR_9_63 gw_279 dX9_init_545) (
    gm_cn 0 gm_m_vret (gm_s_vret dX9_init_548 rfl 0) (
    trivial))))))))))))))))))))))))))))))))))))))))))))))))))))))))))))))))))))))))))))))))))))))))))))))))))))))))))))))))))))))))))))))))))))))))))))))))))))))))))))))))))))))))))))))))))))))))))))))))))))))))))))))))))))))))))))))))))))))))))))))))))))))))))))))))))))))))))))))))))))))))))))))))))))))))))))))))))))))))))), trivial⟩
theorem dX9_in_0 : decode cX9_in 0 = .ok (.iload_n 1, 1) := by decide +kernel
theorem dX9_in_1 : decode cX9_in 1 = .ok (.iload_n 2, 1) := by decide +kernel
theorem dX9_in_2 : decode cX9_in 2 = .ok (.if_icmp .lt 12, 3) := by decide +kernel
theorem dX9_in_5 : decode cX9_in 5 = .ok (.iload_n 1, 1) := by decide +kernel
theorem dX9_in_6 : decode cX9_in 6 = .ok (.iload_n 3, 1) := by decide +kernel
theorem dX9_in_7 : decode cX9_in 7 = .ok (.if_icmp .gt 7, 3) := by decide +kernel
theorem dX9_in_10 : decode cX9_in 10 = .ok (.iconst 1, 1) := by decide +kernel
theorem dX9_in_11 : decode cX9_in 11 = .ok (.goto 4, 3) := by decide +kernel
theorem dX9_in_14 : decode cX9_in 14 = .ok (.iconst 0, 1) := by decide +kernel
theorem dX9_in_15 : decode cX9_in 15 = .ok (.ireturn, 1) := by decide +kernel
def pX9_in : List (List gm_A) := [[(gm_iload 1), (gm_iload 2), (gm_clt 1), (gm_iload 1), (gm_iload 3), (gm_cgt 1), (gm_push (.inl 1)), (gm_goto 2)],
  [(gm_push (.inl 0)), (gm_goto 2)],
  [gm_zret]]
def bpX9_in : Nat → Nat := fun b => ([0, 14, 15] : List Nat).getD b 0
set_option maxRecDepth 100000 in
theorem tX9_in {D : va_G} {sz : Nat} {ad : Nat → Nat} {cA : Nat → ClassId} {xs : Int → Int} {Ln : Int} {l : Launch} : gm_SB D sz ad cA xs Ln l gm_mt cX9_in "LongNoonModel" 4 false 2 bpX9_in 0 pX9_in :=
  ⟨gm_cn 1 (gm_m_iload _) (gm_s_iload_n dX9_in_0 rfl) (
    gm_cn 2 (gm_m_iload _) (gm_s_iload_n dX9_in_1 rfl) (
    gm_cn 5 (gm_m_clt _) (gm_s_clt (bpc := bpX9_in) (b := 1) dX9_in_2 rfl) (
    gm_cn 6 (gm_m_iload _) (gm_s_iload_n dX9_in_5 rfl) (
    gm_cn 7 (gm_m_iload _) (gm_s_iload_n dX9_in_6 rfl) (
    gm_cn 10 (gm_m_cgt _) (gm_s_cgt (bpc := bpX9_in) (b := 1) dX9_in_7 rfl) (
    gm_cn 11 (gm_m_push _) (gm_s_iconst dX9_in_10) (
    gm_cn 0 (gm_m_goto _) (gm_s_goto (bpc := bpX9_in) (b := 2) dX9_in_11 rfl 0) (
    trivial)))))))),
  gm_cn 15 (gm_m_push _) (gm_s_iconst dX9_in_14) (
    gm_cn 0 (gm_m_goto _) (gm_s_fall (bpc := bpX9_in) (b := 2) rfl 0) (
    trivial)),
  gm_cn 0 gm_m_zret (gm_s_zret dX9_in_15 rfl 0) (
    trivial), trivial⟩
theorem dX9_isHouse_0 : decode cX9_isHouse 0 = .ok (.aload_n 0, 1) := by decide +kernel
theorem dX9_isHouse_1 : decode cX9_isHouse 1 = .ok (.iload_n 1, 1) := by decide +kernel
theorem dX9_isHouse_2 : decode cX9_isHouse 2 = .ok (.iconst 0, 1) := by decide +kernel
theorem dX9_isHouse_3 : decode cX9_isHouse 3 = .ok (.aload_n 0, 1) := by decide +kernel
theorem dX9_isHouse_4 : decode cX9_isHouse 4 = .ok (.getfield 7, 3) := by decide +kernel
theorem dX9_isHouse_7 : decode cX9_isHouse 7 = .ok (.iconst 1, 1) := by decide +kernel
theorem dX9_isHouse_8 : decode cX9_isHouse 8 = .ok (.isub, 1) := by decide +kernel
theorem dX9_isHouse_9 : decode cX9_isHouse 9 = .ok (.invokevirtual 206, 3) := by decide +kernel
theorem dX9_isHouse_12 : decode cX9_isHouse 12 = .ok (.ireturn, 1) := by decide +kernel
def pX9_isHouse : List (List gm_A) := [[(gm_aload 0), (gm_iload 1), (gm_push (.inl 0)), (gm_aload 0), (gm_getI 9 900), (gm_push (.inl 1)), (gm_op2 gm_sub), (gm_vcall 9 100 4), gm_zret]]
def bpX9_isHouse : Nat → Nat := fun b => ([0] : List Nat).getD b 0
set_option maxRecDepth 100000 in
theorem tX9_isHouse {D : va_G} {sz : Nat} {ad : Nat → Nat} {cA : Nat → ClassId} {xs : Int → Int} {Ln : Int} {l : Launch} : gm_SB D sz ad cA xs Ln l gm_mt cX9_isHouse "LongNoonModel" 2 false 2 bpX9_isHouse 0 pX9_isHouse :=
  ⟨gm_cn 1 (gm_m_aload _) (gm_s_aload_n dX9_isHouse_0 rfl) (
    gm_cn 2 (gm_m_iload _) (gm_s_iload_n dX9_isHouse_1 rfl) (
    gm_cn 3 (gm_m_push _) (gm_s_iconst dX9_isHouse_2) (
    gm_cn 4 (gm_m_aload _) (gm_s_aload_n dX9_isHouse_3 rfl) (
    gm_cn 7 (gm_m_getI _ _) (gf_getI_9_0 gw_215 dX9_isHouse_4) (
    gm_cn 8 (gm_m_push _) (gm_s_iconst dX9_isHouse_7) (
    gm_cn 9 (gm_m_op2 _) (gm_s_isub dX9_isHouse_8) (
    gm_cn 12 (gm_m_vcall _ _ _) (gcl_X9_in gw_280 dX9_isHouse_9) (
    gm_cn 0 gm_m_zret (gm_s_zret dX9_isHouse_12 rfl 0) (
    trivial))))))))), trivial⟩
theorem dX9_house_0 : decode cX9_house 0 = .ok (.aload_n 0, 1) := by decide +kernel
theorem dX9_house_1 : decode cX9_house 1 = .ok (.iload_n 1, 1) := by decide +kernel
theorem dX9_house_2 : decode cX9_house 2 = .ok (.iconst 0, 1) := by decide +kernel
theorem dX9_house_3 : decode cX9_house 3 = .ok (.bipush 6, 2) := by decide +kernel
theorem dX9_house_5 : decode cX9_house 5 = .ok (.invokevirtual 206, 3) := by decide +kernel
theorem dX9_house_8 : decode cX9_house 8 = .ok (.ifCond .ne 5, 3) := by decide +kernel
theorem dX9_house_11 : decode cX9_house 11 = .ok (.iconst (-1), 1) := by decide +kernel
theorem dX9_house_12 : decode cX9_house 12 = .ok (.ireturn, 1) := by decide +kernel
theorem dX9_house_13 : decode cX9_house 13 = .ok (.aload_n 0, 1) := by decide +kernel
theorem dX9_house_14 : decode cX9_house 14 = .ok (.iload_n 2, 1) := by decide +kernel
theorem dX9_house_15 : decode cX9_house 15 = .ok (.iconst 0, 1) := by decide +kernel
theorem dX9_house_16 : decode cX9_house 16 = .ok (.bipush 9, 2) := by decide +kernel
theorem dX9_house_18 : decode cX9_house 18 = .ok (.invokevirtual 206, 3) := by decide +kernel
theorem dX9_house_21 : decode cX9_house 21 = .ok (.ifCond .eq 27, 3) := by decide +kernel
theorem dX9_house_24 : decode cX9_house 24 = .ok (.aload_n 0, 1) := by decide +kernel
theorem dX9_house_25 : decode cX9_house 25 = .ok (.iload_n 3, 1) := by decide +kernel
theorem dX9_house_26 : decode cX9_house 26 = .ok (.iconst 0, 1) := by decide +kernel
theorem dX9_house_27 : decode cX9_house 27 = .ok (.sipush 199, 3) := by decide +kernel
theorem dX9_house_30 : decode cX9_house 30 = .ok (.invokevirtual 206, 3) := by decide +kernel
theorem dX9_house_33 : decode cX9_house 33 = .ok (.ifCond .eq 15, 3) := by decide +kernel
theorem dX9_house_36 : decode cX9_house 36 = .ok (.aload_n 0, 1) := by decide +kernel
theorem dX9_house_37 : decode cX9_house 37 = .ok (.iload 4, 2) := by decide +kernel
theorem dX9_house_39 : decode cX9_house 39 = .ok (.iconst 0, 1) := by decide +kernel
theorem dX9_house_40 : decode cX9_house 40 = .ok (.bipush 99, 2) := by decide +kernel
theorem dX9_house_42 : decode cX9_house 42 = .ok (.invokevirtual 206, 3) := by decide +kernel
theorem dX9_house_45 : decode cX9_house 45 = .ok (.ifCond .ne 6, 3) := by decide +kernel
theorem dX9_house_48 : decode cX9_house 48 = .ok (.bipush (-2), 2) := by decide +kernel
theorem dX9_house_50 : decode cX9_house 50 = .ok (.ireturn, 1) := by decide +kernel
theorem dX9_house_51 : decode cX9_house 51 = .ok (.aload_n 0, 1) := by decide +kernel
theorem dX9_house_52 : decode cX9_house 52 = .ok (.getfield 7, 3) := by decide +kernel
theorem dX9_house_55 : decode cX9_house 55 = .ok (.bipush 6, 2) := by decide +kernel
theorem dX9_house_57 : decode cX9_house 57 = .ok (.if_icmp .ne 6, 3) := by decide +kernel
theorem dX9_house_60 : decode cX9_house 60 = .ok (.bipush (-4), 2) := by decide +kernel
theorem dX9_house_62 : decode cX9_house 62 = .ok (.ireturn, 1) := by decide +kernel
theorem dX9_house_63 : decode cX9_house 63 = .ok (.aload_n 0, 1) := by decide +kernel
theorem dX9_house_64 : decode cX9_house 64 = .ok (.getfield 16, 3) := by decide +kernel
theorem dX9_house_67 : decode cX9_house 67 = .ok (.aload_n 0, 1) := by decide +kernel
theorem dX9_house_68 : decode cX9_house 68 = .ok (.getfield 7, 3) := by decide +kernel
theorem dX9_house_71 : decode cX9_house 71 = .ok (.iload_n 1, 1) := by decide +kernel
theorem dX9_house_72 : decode cX9_house 72 = .ok (.iastore, 1) := by decide +kernel
theorem dX9_house_73 : decode cX9_house 73 = .ok (.aload_n 0, 1) := by decide +kernel
theorem dX9_house_74 : decode cX9_house 74 = .ok (.getfield 20, 3) := by decide +kernel
theorem dX9_house_77 : decode cX9_house 77 = .ok (.aload_n 0, 1) := by decide +kernel
theorem dX9_house_78 : decode cX9_house 78 = .ok (.getfield 7, 3) := by decide +kernel
theorem dX9_house_81 : decode cX9_house 81 = .ok (.iload_n 2, 1) := by decide +kernel
theorem dX9_house_82 : decode cX9_house 82 = .ok (.iastore, 1) := by decide +kernel
theorem dX9_house_83 : decode cX9_house 83 = .ok (.aload_n 0, 1) := by decide +kernel
theorem dX9_house_84 : decode cX9_house 84 = .ok (.getfield 23, 3) := by decide +kernel
theorem dX9_house_87 : decode cX9_house 87 = .ok (.aload_n 0, 1) := by decide +kernel
theorem dX9_house_88 : decode cX9_house 88 = .ok (.getfield 7, 3) := by decide +kernel
theorem dX9_house_91 : decode cX9_house 91 = .ok (.iload_n 3, 1) := by decide +kernel
theorem dX9_house_92 : decode cX9_house 92 = .ok (.iastore, 1) := by decide +kernel
theorem dX9_house_93 : decode cX9_house 93 = .ok (.aload_n 0, 1) := by decide +kernel
theorem dX9_house_94 : decode cX9_house 94 = .ok (.getfield 26, 3) := by decide +kernel
theorem dX9_house_97 : decode cX9_house 97 = .ok (.aload_n 0, 1) := by decide +kernel
theorem dX9_house_98 : decode cX9_house 98 = .ok (.getfield 7, 3) := by decide +kernel
theorem dX9_house_101 : decode cX9_house 101 = .ok (.iconst 0, 1) := by decide +kernel
theorem dX9_house_102 : decode cX9_house 102 = .ok (.iastore, 1) := by decide +kernel
theorem dX9_house_103 : decode cX9_house 103 = .ok (.aload_n 0, 1) := by decide +kernel
theorem dX9_house_104 : decode cX9_house 104 = .ok (.getfield 29, 3) := by decide +kernel
theorem dX9_house_107 : decode cX9_house 107 = .ok (.aload_n 0, 1) := by decide +kernel
theorem dX9_house_108 : decode cX9_house 108 = .ok (.getfield 7, 3) := by decide +kernel
theorem dX9_house_111 : decode cX9_house 111 = .ok (.iload 4, 2) := by decide +kernel
theorem dX9_house_113 : decode cX9_house 113 = .ok (.iastore, 1) := by decide +kernel
theorem dX9_house_114 : decode cX9_house 114 = .ok (.aload_n 0, 1) := by decide +kernel
theorem dX9_house_115 : decode cX9_house 115 = .ok (.getfield 32, 3) := by decide +kernel
theorem dX9_house_118 : decode cX9_house 118 = .ok (.aload_n 0, 1) := by decide +kernel
theorem dX9_house_119 : decode cX9_house 119 = .ok (.getfield 7, 3) := by decide +kernel
theorem dX9_house_122 : decode cX9_house 122 = .ok (.iconst 0, 1) := by decide +kernel
theorem dX9_house_123 : decode cX9_house 123 = .ok (.iastore, 1) := by decide +kernel
theorem dX9_house_124 : decode cX9_house 124 = .ok (.iconst 0, 1) := by decide +kernel
theorem dX9_house_125 : decode cX9_house 125 = .ok (.istore 5, 2) := by decide +kernel
theorem dX9_house_127 : decode cX9_house 127 = .ok (.iload 5, 2) := by decide +kernel
theorem dX9_house_129 : decode cX9_house 129 = .ok (.iconst 4, 1) := by decide +kernel
theorem dX9_house_130 : decode cX9_house 130 = .ok (.if_icmp .ge 24, 3) := by decide +kernel
theorem dX9_house_133 : decode cX9_house 133 = .ok (.aload_n 0, 1) := by decide +kernel
theorem dX9_house_134 : decode cX9_house 134 = .ok (.getfield 35, 3) := by decide +kernel
theorem dX9_house_137 : decode cX9_house 137 = .ok (.iconst 4, 1) := by decide +kernel
theorem dX9_house_138 : decode cX9_house 138 = .ok (.aload_n 0, 1) := by decide +kernel
theorem dX9_house_139 : decode cX9_house 139 = .ok (.getfield 7, 3) := by decide +kernel
theorem dX9_house_142 : decode cX9_house 142 = .ok (.imul, 1) := by decide +kernel
theorem dX9_house_143 : decode cX9_house 143 = .ok (.iload 5, 2) := by decide +kernel
theorem dX9_house_145 : decode cX9_house 145 = .ok (.iadd, 1) := by decide +kernel
theorem dX9_house_146 : decode cX9_house 146 = .ok (.iconst 4, 1) := by decide +kernel
theorem dX9_house_147 : decode cX9_house 147 = .ok (.iastore, 1) := by decide +kernel
theorem dX9_house_148 : decode cX9_house 148 = .ok (.iinc 5 1, 3) := by decide +kernel
theorem dX9_house_151 : decode cX9_house 151 = .ok (.goto (-24), 3) := by decide +kernel
theorem dX9_house_154 : decode cX9_house 154 = .ok (.aload_n 0, 1) := by decide +kernel
theorem dX9_house_155 : decode cX9_house 155 = .ok (.dup, 1) := by decide +kernel
theorem dX9_house_156 : decode cX9_house 156 = .ok (.getfield 7, 3) := by decide +kernel
theorem dX9_house_159 : decode cX9_house 159 = .ok (.iconst 1, 1) := by decide +kernel
theorem dX9_house_160 : decode cX9_house 160 = .ok (.iadd, 1) := by decide +kernel
theorem dX9_house_161 : decode cX9_house 161 = .ok (.putfield 7, 3) := by decide +kernel
theorem dX9_house_164 : decode cX9_house 164 = .ok (.aload_n 0, 1) := by decide +kernel
theorem dX9_house_165 : decode cX9_house 165 = .ok (.getfield 7, 3) := by decide +kernel
theorem dX9_house_168 : decode cX9_house 168 = .ok (.iconst 1, 1) := by decide +kernel
theorem dX9_house_169 : decode cX9_house 169 = .ok (.isub, 1) := by decide +kernel
theorem dX9_house_170 : decode cX9_house 170 = .ok (.ireturn, 1) := by decide +kernel
def pX9_house : List (List gm_A) := [[(gm_aload 0), (gm_iload 1), (gm_push (.inl 0)), (gm_push (.inl 6)), (gm_vcall 9 100 4), (gm_ifne 1), (gm_push (.inl (-1))), gm_iret],
  [(gm_aload 0), (gm_iload 2), (gm_push (.inl 0)), (gm_push (.inl 9)), (gm_vcall 9 100 4), (gm_ifeq 2), (gm_aload 0), (gm_iload 3), (gm_push (.inl 0)), (gm_push (.inl 199)), (gm_vcall 9 100 4), (gm_ifeq 2), (gm_aload 0), (gm_iload 4), (gm_push (.inl 0)), (gm_push (.inl 99)), (gm_vcall 9 100 4), (gm_ifne 3), (gm_goto 2)],
  [(gm_push (.inl (-2))), gm_iret],
  [(gm_aload 0), (gm_getI 9 900), (gm_push (.inl 6)), (gm_cne 4), (gm_push (.inl (-4))), gm_iret],
  [(gm_aload 0), (gm_getR 9 902), (gm_aload 0), (gm_getI 9 900), (gm_iload 1), gm_iast, (gm_aload 0), (gm_getR 9 903), (gm_aload 0), (gm_getI 9 900), (gm_iload 2), gm_iast, (gm_aload 0), (gm_getR 9 904), (gm_aload 0), (gm_getI 9 900), (gm_iload 3), gm_iast, (gm_aload 0), (gm_getR 9 905), (gm_aload 0), (gm_getI 9 900), (gm_push (.inl 0)), gm_iast, (gm_aload 0), (gm_getR 9 906), (gm_aload 0), (gm_getI 9 900), (gm_iload 4), gm_iast, (gm_aload 0), (gm_getR 9 907), (gm_aload 0), (gm_getI 9 900), (gm_push (.inl 0)), gm_iast, (gm_push (.inl 0)), (gm_istore 5), (gm_goto 5)],
  [(gm_iload 5), (gm_push (.inl 4)), (gm_cge 6), (gm_aload 0), (gm_getR 9 908), (gm_push (.inl 4)), (gm_aload 0), (gm_getI 9 900), (gm_op2 gm_mul), (gm_iload 5), (gm_op2 gm_add), (gm_push (.inl 4)), gm_iast, (gm_iinc 5 1), (gm_goto 5)],
  [(gm_aload 0), gm_dup, (gm_getI 9 900), (gm_push (.inl 1)), (gm_op2 gm_add), (gm_putI 9 900), (gm_aload 0), (gm_getI 9 900), (gm_push (.inl 1)), (gm_op2 gm_sub), gm_iret]]
def bpX9_house : Nat → Nat := fun b => ([0, 13, 48, 51, 63, 127, 154] : List Nat).getD b 0
set_option maxRecDepth 100000 in
theorem tX9_house {D : va_G} {sz : Nat} {ad : Nat → Nat} {cA : Nat → ClassId} {xs : Int → Int} {Ln : Int} {l : Launch} : gm_SB D sz ad cA xs Ln l gm_mt cX9_house "LongNoonModel" 6 false 1 bpX9_house 0 pX9_house :=
  ⟨gm_cn 1 (gm_m_aload _) (gm_s_aload_n dX9_house_0 rfl) (
    gm_cn 2 (gm_m_iload _) (gm_s_iload_n dX9_house_1 rfl) (
    gm_cn 3 (gm_m_push _) (gm_s_iconst dX9_house_2) (
    gm_cn 5 (gm_m_push _) (gm_s_bipush dX9_house_3 rfl) (
    gm_cn 8 (gm_m_vcall _ _ _) (gcl_X9_in gw_280 dX9_house_5) (
    gm_cn 11 (gm_m_ifne _) (gm_s_ifne (bpc := bpX9_house) (b := 1) dX9_house_8 rfl) (
    gm_cn 12 (gm_m_push _) (gm_s_iconst dX9_house_11) (
    gm_cn 0 gm_m_iret (gm_s_iret dX9_house_12 rfl 0) (
    trivial)))))))),
  gm_cn 14 (gm_m_aload _) (gm_s_aload_n dX9_house_13 rfl) (
    gm_cn 15 (gm_m_iload _) (gm_s_iload_n dX9_house_14 rfl) (
    gm_cn 16 (gm_m_push _) (gm_s_iconst dX9_house_15) (
    gm_cn 18 (gm_m_push _) (gm_s_bipush dX9_house_16 rfl) (
    gm_cn 21 (gm_m_vcall _ _ _) (gcl_X9_in gw_280 dX9_house_18) (
    gm_cn 24 (gm_m_ifeq _) (gm_s_ifeq (bpc := bpX9_house) (b := 2) dX9_house_21 rfl) (
    gm_cn 25 (gm_m_aload _) (gm_s_aload_n dX9_house_24 rfl) (
    gm_cn 26 (gm_m_iload _) (gm_s_iload_n dX9_house_25 rfl) (
    gm_cn 27 (gm_m_push _) (gm_s_iconst dX9_house_26) (
    gm_cn 30 (gm_m_push _) (gm_s_sipush dX9_house_27 rfl) (
    gm_cn 33 (gm_m_vcall _ _ _) (gcl_X9_in gw_280 dX9_house_30) (
    gm_cn 36 (gm_m_ifeq _) (gm_s_ifeq (bpc := bpX9_house) (b := 2) dX9_house_33 rfl) (
    gm_cn 37 (gm_m_aload _) (gm_s_aload_n dX9_house_36 rfl) (
    gm_cn 39 (gm_m_iload _) (gm_s_iload dX9_house_37) (
    gm_cn 40 (gm_m_push _) (gm_s_iconst dX9_house_39) (
    gm_cn 42 (gm_m_push _) (gm_s_bipush dX9_house_40 rfl) (
    gm_cn 45 (gm_m_vcall _ _ _) (gcl_X9_in gw_280 dX9_house_42) (
    gm_cn 48 (gm_m_ifne _) (gm_s_ifne (bpc := bpX9_house) (b := 3) dX9_house_45 rfl) (
    gm_cn 0 (gm_m_goto _) (gm_s_fall (bpc := bpX9_house) (b := 2) rfl 0) (
    trivial))))))))))))))))))),
  gm_cn 50 (gm_m_push _) (gm_s_bipush dX9_house_48 rfl) (
    gm_cn 0 gm_m_iret (gm_s_iret dX9_house_50 rfl 0) (
    trivial)),
  gm_cn 52 (gm_m_aload _) (gm_s_aload_n dX9_house_51 rfl) (
    gm_cn 55 (gm_m_getI _ _) (gf_getI_9_0 gw_215 dX9_house_52) (
    gm_cn 57 (gm_m_push _) (gm_s_bipush dX9_house_55 rfl) (
    gm_cn 60 (gm_m_cne _) (gm_s_cne (bpc := bpX9_house) (b := 4) dX9_house_57 rfl) (
    gm_cn 62 (gm_m_push _) (gm_s_bipush dX9_house_60 rfl) (
    gm_cn 0 gm_m_iret (gm_s_iret dX9_house_62 rfl 0) (
    trivial)))))),
  gm_cn 64 (gm_m_aload _) (gm_s_aload_n dX9_house_63 rfl) (
    gm_cn 67 (gm_m_getR _ _) (gf_getR_9_2 gw_217 dX9_house_64) (
    gm_cn 68 (gm_m_aload _) (gm_s_aload_n dX9_house_67 rfl) (
    gm_cn 71 (gm_m_getI _ _) (gf_getI_9_0 gw_215 dX9_house_68) (
    gm_cn 72 (gm_m_iload _) (gm_s_iload_n dX9_house_71 rfl) (
    gm_cn 73 gm_m_iast (gm_s_iast dX9_house_72) (
    gm_cn 74 (gm_m_aload _) (gm_s_aload_n dX9_house_73 rfl) (
    gm_cn 77 (gm_m_getR _ _) (gf_getR_9_3 gw_218 dX9_house_74) (
    gm_cn 78 (gm_m_aload _) (gm_s_aload_n dX9_house_77 rfl) (
    gm_cn 81 (gm_m_getI _ _) (gf_getI_9_0 gw_215 dX9_house_78) (
    gm_cn 82 (gm_m_iload _) (gm_s_iload_n dX9_house_81 rfl) (
    gm_cn 83 gm_m_iast (gm_s_iast dX9_house_82) (
    gm_cn 84 (gm_m_aload _) (gm_s_aload_n dX9_house_83 rfl) (
    gm_cn 87 (gm_m_getR _ _) (gf_getR_9_4 gw_219 dX9_house_84) (
    gm_cn 88 (gm_m_aload _) (gm_s_aload_n dX9_house_87 rfl) (
    gm_cn 91 (gm_m_getI _ _) (gf_getI_9_0 gw_215 dX9_house_88) (
    gm_cn 92 (gm_m_iload _) (gm_s_iload_n dX9_house_91 rfl) (
    gm_cn 93 gm_m_iast (gm_s_iast dX9_house_92) (
    gm_cn 94 (gm_m_aload _) (gm_s_aload_n dX9_house_93 rfl) (
    gm_cn 97 (gm_m_getR _ _) (gf_getR_9_5 gw_220 dX9_house_94) (
    gm_cn 98 (gm_m_aload _) (gm_s_aload_n dX9_house_97 rfl) (
    gm_cn 101 (gm_m_getI _ _) (gf_getI_9_0 gw_215 dX9_house_98) (
    gm_cn 102 (gm_m_push _) (gm_s_iconst dX9_house_101) (
    gm_cn 103 gm_m_iast (gm_s_iast dX9_house_102) (
    gm_cn 104 (gm_m_aload _) (gm_s_aload_n dX9_house_103 rfl) (
    gm_cn 107 (gm_m_getR _ _) (gf_getR_9_6 gw_221 dX9_house_104) (
    gm_cn 108 (gm_m_aload _) (gm_s_aload_n dX9_house_107 rfl) (
    gm_cn 111 (gm_m_getI _ _) (gf_getI_9_0 gw_215 dX9_house_108) (
    gm_cn 113 (gm_m_iload _) (gm_s_iload dX9_house_111) (
    gm_cn 114 gm_m_iast (gm_s_iast dX9_house_113) (
    gm_cn 115 (gm_m_aload _) (gm_s_aload_n dX9_house_114 rfl) (
    gm_cn 118 (gm_m_getR _ _) (gf_getR_9_7 gw_222 dX9_house_115) (
    gm_cn 119 (gm_m_aload _) (gm_s_aload_n dX9_house_118 rfl) (
    gm_cn 122 (gm_m_getI _ _) (gf_getI_9_0 gw_215 dX9_house_119) (
    gm_cn 123 (gm_m_push _) (gm_s_iconst dX9_house_122) (
    gm_cn 124 gm_m_iast (gm_s_iast dX9_house_123) (
    gm_cn 125 (gm_m_push _) (gm_s_iconst dX9_house_124) (
    gm_cn 127 (gm_m_istore _) (gm_s_istore dX9_house_125 (by decide)) (
    gm_cn 0 (gm_m_goto _) (gm_s_fall (bpc := bpX9_house) (b := 5) rfl 0) (
    trivial))))))))))))))))))))))))))))))))))))))),
  gm_cn 129 (gm_m_iload _) (gm_s_iload dX9_house_127) (
    gm_cn 130 (gm_m_push _) (gm_s_iconst dX9_house_129) (
    gm_cn 133 (gm_m_cge _) (gm_s_cge (bpc := bpX9_house) (b := 6) dX9_house_130 rfl) (
    gm_cn 134 (gm_m_aload _) (gm_s_aload_n dX9_house_133 rfl) (
    gm_cn 137 (gm_m_getR _ _) (gf_getR_9_8 gw_223 dX9_house_134) (
    gm_cn 138 (gm_m_push _) (gm_s_iconst dX9_house_137) (
    gm_cn 139 (gm_m_aload _) (gm_s_aload_n dX9_house_138 rfl) (
    gm_cn 142 (gm_m_getI _ _) (gf_getI_9_0 gw_215 dX9_house_139) (
    gm_cn 143 (gm_m_op2 _) (gm_s_imul dX9_house_142) (
    gm_cn 145 (gm_m_iload _) (gm_s_iload dX9_house_143) (
    gm_cn 146 (gm_m_op2 _) (gm_s_iadd dX9_house_145) (
    gm_cn 147 (gm_m_push _) (gm_s_iconst dX9_house_146) (
    gm_cn 148 gm_m_iast (gm_s_iast dX9_house_147) (
    gm_cn 151 (gm_m_iinc _ _) (gm_s_iinc dX9_house_148 (by decide)) (
    gm_cn 0 (gm_m_goto _) (gm_s_goto (bpc := bpX9_house) (b := 5) dX9_house_151 rfl 0) (
    trivial))))))))))))))),
  gm_cn 155 (gm_m_aload _) (gm_s_aload_n dX9_house_154 rfl) (
    gm_cn 156 gm_m_dup (gm_s_dup dX9_house_155) (
    gm_cn 159 (gm_m_getI _ _) (gf_getI_9_0 gw_215 dX9_house_156) (
    gm_cn 160 (gm_m_push _) (gm_s_iconst dX9_house_159) (
    gm_cn 161 (gm_m_op2 _) (gm_s_iadd dX9_house_160) (
    gm_cn 164 (gm_m_putI _ _) (gf_putI_9_0 gw_215 dX9_house_161) (
    gm_cn 165 (gm_m_aload _) (gm_s_aload_n dX9_house_164 rfl) (
    gm_cn 168 (gm_m_getI _ _) (gf_getI_9_0 gw_215 dX9_house_165) (
    gm_cn 169 (gm_m_push _) (gm_s_iconst dX9_house_168) (
    gm_cn 170 (gm_m_op2 _) (gm_s_isub dX9_house_169) (
    gm_cn 0 gm_m_iret (gm_s_iret dX9_house_170 rfl 0) (
    trivial))))))))))), trivial⟩
theorem dX9_roomOf_0 : decode cX9_roomOf 0 = .ok (.aload_n 0, 1) := by decide +kernel
theorem dX9_roomOf_1 : decode cX9_roomOf 1 = .ok (.getfield 16, 3) := by decide +kernel
theorem dX9_roomOf_4 : decode cX9_roomOf 4 = .ok (.iload_n 1, 1) := by decide +kernel
theorem dX9_roomOf_5 : decode cX9_roomOf 5 = .ok (.iaload, 1) := by decide +kernel
theorem dX9_roomOf_6 : decode cX9_roomOf 6 = .ok (.iconst 2, 1) := by decide +kernel
theorem dX9_roomOf_7 : decode cX9_roomOf 7 = .ok (.if_icmp .eq 13, 3) := by decide +kernel
theorem dX9_roomOf_10 : decode cX9_roomOf 10 = .ok (.aload_n 0, 1) := by decide +kernel
theorem dX9_roomOf_11 : decode cX9_roomOf 11 = .ok (.getfield 16, 3) := by decide +kernel
theorem dX9_roomOf_14 : decode cX9_roomOf 14 = .ok (.iload_n 1, 1) := by decide +kernel
theorem dX9_roomOf_15 : decode cX9_roomOf 15 = .ok (.iaload, 1) := by decide +kernel
theorem dX9_roomOf_16 : decode cX9_roomOf 16 = .ok (.iconst 5, 1) := by decide +kernel
theorem dX9_roomOf_17 : decode cX9_roomOf 17 = .ok (.if_icmp .ne 19, 3) := by decide +kernel
theorem dX9_roomOf_20 : decode cX9_roomOf 20 = .ok (.aload_n 0, 1) := by decide +kernel
theorem dX9_roomOf_21 : decode cX9_roomOf 21 = .ok (.getfield 29, 3) := by decide +kernel
theorem dX9_roomOf_24 : decode cX9_roomOf 24 = .ok (.iload_n 1, 1) := by decide +kernel
theorem dX9_roomOf_25 : decode cX9_roomOf 25 = .ok (.iaload, 1) := by decide +kernel
theorem dX9_roomOf_26 : decode cX9_roomOf 26 = .ok (.aload_n 0, 1) := by decide +kernel
theorem dX9_roomOf_27 : decode cX9_roomOf 27 = .ok (.getfield 20, 3) := by decide +kernel
theorem dX9_roomOf_30 : decode cX9_roomOf 30 = .ok (.iload_n 1, 1) := by decide +kernel
theorem dX9_roomOf_31 : decode cX9_roomOf 31 = .ok (.iaload, 1) := by decide +kernel
theorem dX9_roomOf_32 : decode cX9_roomOf 32 = .ok (.iadd, 1) := by decide +kernel
theorem dX9_roomOf_33 : decode cX9_roomOf 33 = .ok (.goto 9, 3) := by decide +kernel
theorem dX9_roomOf_36 : decode cX9_roomOf 36 = .ok (.aload_n 0, 1) := by decide +kernel
theorem dX9_roomOf_37 : decode cX9_roomOf 37 = .ok (.getfield 29, 3) := by decide +kernel
theorem dX9_roomOf_40 : decode cX9_roomOf 40 = .ok (.iload_n 1, 1) := by decide +kernel
theorem dX9_roomOf_41 : decode cX9_roomOf 41 = .ok (.iaload, 1) := by decide +kernel
theorem dX9_roomOf_42 : decode cX9_roomOf 42 = .ok (.ireturn, 1) := by decide +kernel
def pX9_roomOf : List (List gm_A) := [[(gm_aload 0), (gm_getR 9 902), (gm_iload 1), gm_iald, (gm_push (.inl 2)), (gm_ceq 1), (gm_aload 0), (gm_getR 9 902), (gm_iload 1), gm_iald, (gm_push (.inl 5)), (gm_cne 2), (gm_goto 1)],
  [(gm_aload 0), (gm_getR 9 906), (gm_iload 1), gm_iald, (gm_aload 0), (gm_getR 9 903), (gm_iload 1), gm_iald, (gm_op2 gm_add), (gm_goto 3)],
  [(gm_aload 0), (gm_getR 9 906), (gm_iload 1), gm_iald, (gm_goto 3)],
  [gm_iret]]
def bpX9_roomOf : Nat → Nat := fun b => ([0, 20, 36, 42] : List Nat).getD b 0
set_option maxRecDepth 100000 in
theorem tX9_roomOf {D : va_G} {sz : Nat} {ad : Nat → Nat} {cA : Nat → ClassId} {xs : Int → Int} {Ln : Int} {l : Launch} : gm_SB D sz ad cA xs Ln l gm_mt cX9_roomOf "LongNoonModel" 2 false 1 bpX9_roomOf 0 pX9_roomOf :=
  ⟨gm_cn 1 (gm_m_aload _) (gm_s_aload_n dX9_roomOf_0 rfl) (
    gm_cn 4 (gm_m_getR _ _) (gf_getR_9_2 gw_217 dX9_roomOf_1) (
    gm_cn 5 (gm_m_iload _) (gm_s_iload_n dX9_roomOf_4 rfl) (
    gm_cn 6 gm_m_iald (gm_s_iald dX9_roomOf_5) (
    gm_cn 7 (gm_m_push _) (gm_s_iconst dX9_roomOf_6) (
    gm_cn 10 (gm_m_ceq _) (gm_s_ceq (bpc := bpX9_roomOf) (b := 1) dX9_roomOf_7 rfl) (
    gm_cn 11 (gm_m_aload _) (gm_s_aload_n dX9_roomOf_10 rfl) (
    gm_cn 14 (gm_m_getR _ _) (gf_getR_9_2 gw_217 dX9_roomOf_11) (
    gm_cn 15 (gm_m_iload _) (gm_s_iload_n dX9_roomOf_14 rfl) (
    gm_cn 16 gm_m_iald (gm_s_iald dX9_roomOf_15) (
    gm_cn 17 (gm_m_push _) (gm_s_iconst dX9_roomOf_16) (
    gm_cn 20 (gm_m_cne _) (gm_s_cne (bpc := bpX9_roomOf) (b := 2) dX9_roomOf_17 rfl) (
    gm_cn 0 (gm_m_goto _) (gm_s_fall (bpc := bpX9_roomOf) (b := 1) rfl 0) (
    trivial))))))))))))),
  gm_cn 21 (gm_m_aload _) (gm_s_aload_n dX9_roomOf_20 rfl) (
    gm_cn 24 (gm_m_getR _ _) (gf_getR_9_6 gw_221 dX9_roomOf_21) (
    gm_cn 25 (gm_m_iload _) (gm_s_iload_n dX9_roomOf_24 rfl) (
    gm_cn 26 gm_m_iald (gm_s_iald dX9_roomOf_25) (
    gm_cn 27 (gm_m_aload _) (gm_s_aload_n dX9_roomOf_26 rfl) (
    gm_cn 30 (gm_m_getR _ _) (gf_getR_9_3 gw_218 dX9_roomOf_27) (
    gm_cn 31 (gm_m_iload _) (gm_s_iload_n dX9_roomOf_30 rfl) (
    gm_cn 32 gm_m_iald (gm_s_iald dX9_roomOf_31) (
    gm_cn 33 (gm_m_op2 _) (gm_s_iadd dX9_roomOf_32) (
    gm_cn 0 (gm_m_goto _) (gm_s_goto (bpc := bpX9_roomOf) (b := 3) dX9_roomOf_33 rfl 0) (
    trivial)))))))))),
  gm_cn 37 (gm_m_aload _) (gm_s_aload_n dX9_roomOf_36 rfl) (
    gm_cn 40 (gm_m_getR _ _) (gf_getR_9_6 gw_221 dX9_roomOf_37) (
    gm_cn 41 (gm_m_iload _) (gm_s_iload_n dX9_roomOf_40 rfl) (
    gm_cn 42 gm_m_iald (gm_s_iald dX9_roomOf_41) (
    gm_cn 0 (gm_m_goto _) (gm_s_fall (bpc := bpX9_roomOf) (b := 3) rfl 0) (
    trivial))))),
  gm_cn 0 gm_m_iret (gm_s_iret dX9_roomOf_42 rfl 0) (
    trivial), trivial⟩
theorem dX9_set_0 : decode cX9_set 0 = .ok (.aload_n 0, 1) := by decide +kernel
theorem dX9_set_1 : decode cX9_set 1 = .ok (.iload_n 1, 1) := by decide +kernel
theorem dX9_set_2 : decode cX9_set 2 = .ok (.invokevirtual 210, 3) := by decide +kernel
theorem dX9_set_5 : decode cX9_set 5 = .ok (.ifCond .eq 13, 3) := by decide +kernel
theorem dX9_set_8 : decode cX9_set 8 = .ok (.aload_n 0, 1) := by decide +kernel
theorem dX9_set_9 : decode cX9_set 9 = .ok (.iload_n 2, 1) := by decide +kernel
theorem dX9_set_10 : decode cX9_set 10 = .ok (.iconst 0, 1) := by decide +kernel
theorem dX9_set_11 : decode cX9_set 11 = .ok (.iconst 2, 1) := by decide +kernel
theorem dX9_set_12 : decode cX9_set 12 = .ok (.invokevirtual 206, 3) := by decide +kernel
theorem dX9_set_15 : decode cX9_set 15 = .ok (.ifCond .ne 5, 3) := by decide +kernel
theorem dX9_set_18 : decode cX9_set 18 = .ok (.iconst (-1), 1) := by decide +kernel
theorem dX9_set_19 : decode cX9_set 19 = .ok (.ireturn, 1) := by decide +kernel
theorem dX9_set_20 : decode cX9_set 20 = .ok (.aload_n 0, 1) := by decide +kernel
theorem dX9_set_21 : decode cX9_set 21 = .ok (.iload_n 3, 1) := by decide +kernel
theorem dX9_set_22 : decode cX9_set 22 = .ok (.iconst 0, 1) := by decide +kernel
theorem dX9_set_23 : decode cX9_set 23 = .ok (.iload_n 2, 1) := by decide +kernel
theorem dX9_set_24 : decode cX9_set 24 = .ok (.ifCond .ne 9, 3) := by decide +kernel
theorem dX9_set_27 : decode cX9_set 27 = .ok (.sipush 199, 3) := by decide +kernel
theorem dX9_set_30 : decode cX9_set 30 = .ok (.goto 18, 3) := by decide +kernel
theorem dX9_set_33 : decode cX9_set 33 = .ok (.iload_n 2, 1) := by decide +kernel
theorem dX9_set_34 : decode cX9_set 34 = .ok (.iconst 1, 1) := by decide +kernel
theorem dX9_set_35 : decode cX9_set 35 = .ok (.if_icmp .ne 11, 3) := by decide +kernel
theorem dX9_set_38 : decode cX9_set 38 = .ok (.aload_n 0, 1) := by decide +kernel
theorem dX9_set_39 : decode cX9_set 39 = .ok (.iload_n 1, 1) := by decide +kernel
theorem dX9_set_40 : decode cX9_set 40 = .ok (.invokevirtual 214, 3) := by decide +kernel
theorem dX9_set_43 : decode cX9_set 43 = .ok (.goto 5, 3) := by decide +kernel
theorem dX9_set_46 : decode cX9_set 46 = .ok (.bipush 9, 2) := by decide +kernel
theorem dX9_set_48 : decode cX9_set 48 = .ok (.invokevirtual 206, 3) := by decide +kernel
theorem dX9_set_51 : decode cX9_set 51 = .ok (.ifCond .ne 6, 3) := by decide +kernel
theorem dX9_set_54 : decode cX9_set 54 = .ok (.bipush (-2), 2) := by decide +kernel
theorem dX9_set_56 : decode cX9_set 56 = .ok (.ireturn, 1) := by decide +kernel
theorem dX9_set_57 : decode cX9_set 57 = .ok (.iload_n 2, 1) := by decide +kernel
theorem dX9_set_58 : decode cX9_set 58 = .ok (.ifCond .ne 12, 3) := by decide +kernel
theorem dX9_set_61 : decode cX9_set 61 = .ok (.aload_n 0, 1) := by decide +kernel
theorem dX9_set_62 : decode cX9_set 62 = .ok (.getfield 23, 3) := by decide +kernel
theorem dX9_set_65 : decode cX9_set 65 = .ok (.iload_n 1, 1) := by decide +kernel
theorem dX9_set_66 : decode cX9_set 66 = .ok (.iaload, 1) := by decide +kernel
theorem dX9_set_67 : decode cX9_set 67 = .ok (.goto 23, 3) := by decide +kernel
theorem dX9_set_70 : decode cX9_set 70 = .ok (.iload_n 2, 1) := by decide +kernel
theorem dX9_set_71 : decode cX9_set 71 = .ok (.iconst 1, 1) := by decide +kernel
theorem dX9_set_72 : decode cX9_set 72 = .ok (.if_icmp .ne 12, 3) := by decide +kernel
theorem dX9_set_75 : decode cX9_set 75 = .ok (.aload_n 0, 1) := by decide +kernel
theorem dX9_set_76 : decode cX9_set 76 = .ok (.getfield 26, 3) := by decide +kernel
theorem dX9_set_79 : decode cX9_set 79 = .ok (.iload_n 1, 1) := by decide +kernel
theorem dX9_set_80 : decode cX9_set 80 = .ok (.iaload, 1) := by decide +kernel
theorem dX9_set_81 : decode cX9_set 81 = .ok (.goto 9, 3) := by decide +kernel
theorem dX9_set_84 : decode cX9_set 84 = .ok (.aload_n 0, 1) := by decide +kernel
theorem dX9_set_85 : decode cX9_set 85 = .ok (.getfield 32, 3) := by decide +kernel
theorem dX9_set_88 : decode cX9_set 88 = .ok (.iload_n 1, 1) := by decide +kernel
theorem dX9_set_89 : decode cX9_set 89 = .ok (.iaload, 1) := by decide +kernel
theorem dX9_set_90 : decode cX9_set 90 = .ok (.istore 4, 2) := by decide +kernel
theorem dX9_set_92 : decode cX9_set 92 = .ok (.iload_n 2, 1) := by decide +kernel
theorem dX9_set_93 : decode cX9_set 93 = .ok (.ifCond .ne 13, 3) := by decide +kernel
theorem dX9_set_96 : decode cX9_set 96 = .ok (.aload_n 0, 1) := by decide +kernel
theorem dX9_set_97 : decode cX9_set 97 = .ok (.getfield 23, 3) := by decide +kernel
theorem dX9_set_100 : decode cX9_set 100 = .ok (.iload_n 1, 1) := by decide +kernel
theorem dX9_set_101 : decode cX9_set 101 = .ok (.iload_n 3, 1) := by decide +kernel
theorem dX9_set_102 : decode cX9_set 102 = .ok (.iastore, 1) := by decide +kernel
theorem dX9_set_103 : decode cX9_set 103 = .ok (.goto 25, 3) := by decide +kernel
theorem dX9_set_106 : decode cX9_set 106 = .ok (.iload_n 2, 1) := by decide +kernel
theorem dX9_set_107 : decode cX9_set 107 = .ok (.iconst 1, 1) := by decide +kernel
theorem dX9_set_108 : decode cX9_set 108 = .ok (.if_icmp .ne 13, 3) := by decide +kernel
theorem dX9_set_111 : decode cX9_set 111 = .ok (.aload_n 0, 1) := by decide +kernel
theorem dX9_set_112 : decode cX9_set 112 = .ok (.getfield 26, 3) := by decide +kernel
theorem dX9_set_115 : decode cX9_set 115 = .ok (.iload_n 1, 1) := by decide +kernel
theorem dX9_set_116 : decode cX9_set 116 = .ok (.iload_n 3, 1) := by decide +kernel
theorem dX9_set_117 : decode cX9_set 117 = .ok (.iastore, 1) := by decide +kernel
theorem dX9_set_118 : decode cX9_set 118 = .ok (.goto 10, 3) := by decide +kernel
theorem dX9_set_121 : decode cX9_set 121 = .ok (.aload_n 0, 1) := by decide +kernel
theorem dX9_set_122 : decode cX9_set 122 = .ok (.getfield 32, 3) := by decide +kernel
theorem dX9_set_125 : decode cX9_set 125 = .ok (.iload_n 1, 1) := by decide +kernel
theorem dX9_set_126 : decode cX9_set 126 = .ok (.iload_n 3, 1) := by decide +kernel
theorem dX9_set_127 : decode cX9_set 127 = .ok (.iastore, 1) := by decide +kernel
theorem dX9_set_128 : decode cX9_set 128 = .ok (.iload 4, 2) := by decide +kernel
theorem dX9_set_130 : decode cX9_set 130 = .ok (.ireturn, 1) := by decide +kernel
def pX9_set : List (List gm_A) := [[(gm_aload 0), (gm_iload 1), (gm_vcall 9 101 2), (gm_ifeq 1), (gm_aload 0), (gm_iload 2), (gm_push (.inl 0)), (gm_push (.inl 2)), (gm_vcall 9 100 4), (gm_ifne 2), (gm_goto 1)],
  [(gm_push (.inl (-1))), gm_iret],
  [(gm_aload 0), (gm_iload 3), (gm_push (.inl 0)), (gm_iload 2), (gm_ifne 3), (gm_push (.inl 199)), (gm_goto 5)],
  [(gm_iload 2), (gm_push (.inl 1)), (gm_cne 4), (gm_aload 0), (gm_iload 1), (gm_vcall 9 103 2), (gm_goto 5)],
  [(gm_push (.inl 9)), (gm_goto 5)],
  [(gm_vcall 9 100 4), (gm_ifne 6), (gm_push (.inl (-2))), gm_iret],
  [(gm_iload 2), (gm_ifne 7), (gm_aload 0), (gm_getR 9 904), (gm_iload 1), gm_iald, (gm_goto 9)],
  [(gm_iload 2), (gm_push (.inl 1)), (gm_cne 8), (gm_aload 0), (gm_getR 9 905), (gm_iload 1), gm_iald, (gm_goto 9)],
  [(gm_aload 0), (gm_getR 9 907), (gm_iload 1), gm_iald, (gm_goto 9)],
  [(gm_istore 4), (gm_iload 2), (gm_ifne 10), (gm_aload 0), (gm_getR 9 904), (gm_iload 1), (gm_iload 3), gm_iast, (gm_goto 12)],
  [(gm_iload 2), (gm_push (.inl 1)), (gm_cne 11), (gm_aload 0), (gm_getR 9 905), (gm_iload 1), (gm_iload 3), gm_iast, (gm_goto 12)],
  [(gm_aload 0), (gm_getR 9 907), (gm_iload 1), (gm_iload 3), gm_iast, (gm_goto 12)],
  [(gm_iload 4), gm_iret]]
def bpX9_set : Nat → Nat := fun b => ([0, 18, 20, 33, 46, 48, 57, 70, 84, 90, 106, 121, 128] : List Nat).getD b 0
set_option maxRecDepth 100000 in
theorem tX9_set {D : va_G} {sz : Nat} {ad : Nat → Nat} {cA : Nat → ClassId} {xs : Int → Int} {Ln : Int} {l : Launch} : gm_SB D sz ad cA xs Ln l gm_mt cX9_set "LongNoonModel" 5 false 1 bpX9_set 0 pX9_set :=
  ⟨gm_cn 1 (gm_m_aload _) (gm_s_aload_n dX9_set_0 rfl) (
    gm_cn 2 (gm_m_iload _) (gm_s_iload_n dX9_set_1 rfl) (
    gm_cn 5 (gm_m_vcall _ _ _) (gcl_X9_isHouse gw_281 dX9_set_2) (
    gm_cn 8 (gm_m_ifeq _) (gm_s_ifeq (bpc := bpX9_set) (b := 1) dX9_set_5 rfl) (
    gm_cn 9 (gm_m_aload _) (gm_s_aload_n dX9_set_8 rfl) (
    gm_cn 10 (gm_m_iload _) (gm_s_iload_n dX9_set_9 rfl) (
    gm_cn 11 (gm_m_push _) (gm_s_iconst dX9_set_10) (
    gm_cn 12 (gm_m_push _) (gm_s_iconst dX9_set_11) (
    gm_cn 15 (gm_m_vcall _ _ _) (gcl_X9_in gw_280 dX9_set_12) (
    gm_cn 18 (gm_m_ifne _) (gm_s_ifne (bpc := bpX9_set) (b := 2) dX9_set_15 rfl) (
    gm_cn 0 (gm_m_goto _) (gm_s_fall (bpc := bpX9_set) (b := 1) rfl 0) (
    trivial))))))))))),
  gm_cn 19 (gm_m_push _) (gm_s_iconst dX9_set_18) (
    gm_cn 0 gm_m_iret (gm_s_iret dX9_set_19 rfl 0) (
    trivial)),
  gm_cn 21 (gm_m_aload _) (gm_s_aload_n dX9_set_20 rfl) (
    gm_cn 22 (gm_m_iload _) (gm_s_iload_n dX9_set_21 rfl) (
    gm_cn 23 (gm_m_push _) (gm_s_iconst dX9_set_22) (
    gm_cn 24 (gm_m_iload _) (gm_s_iload_n dX9_set_23 rfl) (
    gm_cn 27 (gm_m_ifne _) (gm_s_ifne (bpc := bpX9_set) (b := 3) dX9_set_24 rfl) (
    gm_cn 30 (gm_m_push _) (gm_s_sipush dX9_set_27 rfl) (
    gm_cn 0 (gm_m_goto _) (gm_s_goto (bpc := bpX9_set) (b := 5) dX9_set_30 rfl 0) (
    trivial))))))),
  gm_cn 34 (gm_m_iload _) (gm_s_iload_n dX9_set_33 rfl) (
    gm_cn 35 (gm_m_push _) (gm_s_iconst dX9_set_34) (
    gm_cn 38 (gm_m_cne _) (gm_s_cne (bpc := bpX9_set) (b := 4) dX9_set_35 rfl) (
    gm_cn 39 (gm_m_aload _) (gm_s_aload_n dX9_set_38 rfl) (
    gm_cn 40 (gm_m_iload _) (gm_s_iload_n dX9_set_39 rfl) (
    gm_cn 43 (gm_m_vcall _ _ _) (gcl_X9_roomOf gw_282 dX9_set_40) (
    gm_cn 0 (gm_m_goto _) (gm_s_goto (bpc := bpX9_set) (b := 5) dX9_set_43 rfl 0) (
    trivial))))))),
  gm_cn 48 (gm_m_push _) (gm_s_bipush dX9_set_46 rfl) (
    gm_cn 0 (gm_m_goto _) (gm_s_fall (bpc := bpX9_set) (b := 5) rfl 0) (
    trivial)),
  gm_cn 51 (gm_m_vcall _ _ _) (gcl_X9_in gw_280 dX9_set_48) (
    gm_cn 54 (gm_m_ifne _) (gm_s_ifne (bpc := bpX9_set) (b := 6) dX9_set_51 rfl) (
    gm_cn 56 (gm_m_push _) (gm_s_bipush dX9_set_54 rfl) (
    gm_cn 0 gm_m_iret (gm_s_iret dX9_set_56 rfl 0) (
    trivial)))),
  gm_cn 58 (gm_m_iload _) (gm_s_iload_n dX9_set_57 rfl) (
    gm_cn 61 (gm_m_ifne _) (gm_s_ifne (bpc := bpX9_set) (b := 7) dX9_set_58 rfl) (
    gm_cn 62 (gm_m_aload _) (gm_s_aload_n dX9_set_61 rfl) (
    gm_cn 65 (gm_m_getR _ _) (gf_getR_9_4 gw_219 dX9_set_62) (
    gm_cn 66 (gm_m_iload _) (gm_s_iload_n dX9_set_65 rfl) (
    gm_cn 67 gm_m_iald (gm_s_iald dX9_set_66) (
    gm_cn 0 (gm_m_goto _) (gm_s_goto (bpc := bpX9_set) (b := 9) dX9_set_67 rfl 0) (
    trivial))))))),
  gm_cn 71 (gm_m_iload _) (gm_s_iload_n dX9_set_70 rfl) (
    gm_cn 72 (gm_m_push _) (gm_s_iconst dX9_set_71) (
    gm_cn 75 (gm_m_cne _) (gm_s_cne (bpc := bpX9_set) (b := 8) dX9_set_72 rfl) (
    gm_cn 76 (gm_m_aload _) (gm_s_aload_n dX9_set_75 rfl) (
    gm_cn 79 (gm_m_getR _ _) (gf_getR_9_5 gw_220 dX9_set_76) (
    gm_cn 80 (gm_m_iload _) (gm_s_iload_n dX9_set_79 rfl) (
    gm_cn 81 gm_m_iald (gm_s_iald dX9_set_80) (
    gm_cn 0 (gm_m_goto _) (gm_s_goto (bpc := bpX9_set) (b := 9) dX9_set_81 rfl 0) (
    trivial)))))))),
  gm_cn 85 (gm_m_aload _) (gm_s_aload_n dX9_set_84 rfl) (
    gm_cn 88 (gm_m_getR _ _) (gf_getR_9_7 gw_222 dX9_set_85) (
    gm_cn 89 (gm_m_iload _) (gm_s_iload_n dX9_set_88 rfl) (
    gm_cn 90 gm_m_iald (gm_s_iald dX9_set_89) (
    gm_cn 0 (gm_m_goto _) (gm_s_fall (bpc := bpX9_set) (b := 9) rfl 0) (
    trivial))))),
  gm_cn 92 (gm_m_istore _) (gm_s_istore dX9_set_90 (by decide)) (
    gm_cn 93 (gm_m_iload _) (gm_s_iload_n dX9_set_92 rfl) (
    gm_cn 96 (gm_m_ifne _) (gm_s_ifne (bpc := bpX9_set) (b := 10) dX9_set_93 rfl) (
    gm_cn 97 (gm_m_aload _) (gm_s_aload_n dX9_set_96 rfl) (
    gm_cn 100 (gm_m_getR _ _) (gf_getR_9_4 gw_219 dX9_set_97) (
    gm_cn 101 (gm_m_iload _) (gm_s_iload_n dX9_set_100 rfl) (
    gm_cn 102 (gm_m_iload _) (gm_s_iload_n dX9_set_101 rfl) (
    gm_cn 103 gm_m_iast (gm_s_iast dX9_set_102) (
    gm_cn 0 (gm_m_goto _) (gm_s_goto (bpc := bpX9_set) (b := 12) dX9_set_103 rfl 0) (
    trivial))))))))),
  gm_cn 107 (gm_m_iload _) (gm_s_iload_n dX9_set_106 rfl) (
    gm_cn 108 (gm_m_push _) (gm_s_iconst dX9_set_107) (
    gm_cn 111 (gm_m_cne _) (gm_s_cne (bpc := bpX9_set) (b := 11) dX9_set_108 rfl) (
    gm_cn 112 (gm_m_aload _) (gm_s_aload_n dX9_set_111 rfl) (
    gm_cn 115 (gm_m_getR _ _) (gf_getR_9_5 gw_220 dX9_set_112) (
    gm_cn 116 (gm_m_iload _) (gm_s_iload_n dX9_set_115 rfl) (
    gm_cn 117 (gm_m_iload _) (gm_s_iload_n dX9_set_116 rfl) (
    gm_cn 118 gm_m_iast (gm_s_iast dX9_set_117) (
    gm_cn 0 (gm_m_goto _) (gm_s_goto (bpc := bpX9_set) (b := 12) dX9_set_118 rfl 0) (
    trivial))))))))),
  gm_cn 122 (gm_m_aload _) (gm_s_aload_n dX9_set_121 rfl) (
    gm_cn 125 (gm_m_getR _ _) (gf_getR_9_7 gw_222 dX9_set_122) (
    gm_cn 126 (gm_m_iload _) (gm_s_iload_n dX9_set_125 rfl) (
    gm_cn 127 (gm_m_iload _) (gm_s_iload_n dX9_set_126 rfl) (
    gm_cn 128 gm_m_iast (gm_s_iast dX9_set_127) (
    gm_cn 0 (gm_m_goto _) (gm_s_fall (bpc := bpX9_set) (b := 12) rfl 0) (
    trivial)))))),
  gm_cn 130 (gm_m_iload _) (gm_s_iload dX9_set_128) (
    gm_cn 0 gm_m_iret (gm_s_iret dX9_set_130 rfl 0) (
    trivial)), trivial⟩
theorem dX9_row_0 : decode cX9_row 0 = .ok (.aload_n 0, 1) := by decide +kernel
theorem dX9_row_1 : decode cX9_row 1 = .ok (.iload_n 1, 1) := by decide +kernel
theorem dX9_row_2 : decode cX9_row 2 = .ok (.invokevirtual 210, 3) := by decide +kernel
theorem dX9_row_5 : decode cX9_row 5 = .ok (.ifCond .eq 13, 3) := by decide +kernel
theorem dX9_row_8 : decode cX9_row 8 = .ok (.aload_n 0, 1) := by decide +kernel
theorem dX9_row_9 : decode cX9_row 9 = .ok (.iload_n 2, 1) := by decide +kernel
theorem dX9_row_10 : decode cX9_row 10 = .ok (.iconst 0, 1) := by decide +kernel
theorem dX9_row_11 : decode cX9_row 11 = .ok (.iconst 3, 1) := by decide +kernel
theorem dX9_row_12 : decode cX9_row 12 = .ok (.invokevirtual 206, 3) := by decide +kernel
theorem dX9_row_15 : decode cX9_row 15 = .ok (.ifCond .ne 5, 3) := by decide +kernel
theorem dX9_row_18 : decode cX9_row 18 = .ok (.iconst (-1), 1) := by decide +kernel
theorem dX9_row_19 : decode cX9_row 19 = .ok (.ireturn, 1) := by decide +kernel
theorem dX9_row_20 : decode cX9_row 20 = .ok (.aload_n 0, 1) := by decide +kernel
theorem dX9_row_21 : decode cX9_row 21 = .ok (.iload_n 3, 1) := by decide +kernel
theorem dX9_row_22 : decode cX9_row 22 = .ok (.iconst 0, 1) := by decide +kernel
theorem dX9_row_23 : decode cX9_row 23 = .ok (.bipush 9, 2) := by decide +kernel
theorem dX9_row_25 : decode cX9_row 25 = .ok (.invokevirtual 206, 3) := by decide +kernel
theorem dX9_row_28 : decode cX9_row 28 = .ok (.ifCond .ne 6, 3) := by decide +kernel
theorem dX9_row_31 : decode cX9_row 31 = .ok (.bipush (-2), 2) := by decide +kernel
theorem dX9_row_33 : decode cX9_row 33 = .ok (.ireturn, 1) := by decide +kernel
theorem dX9_row_34 : decode cX9_row 34 = .ok (.aload_n 0, 1) := by decide +kernel
theorem dX9_row_35 : decode cX9_row 35 = .ok (.getfield 16, 3) := by decide +kernel
theorem dX9_row_38 : decode cX9_row 38 = .ok (.iload_n 1, 1) := by decide +kernel
theorem dX9_row_39 : decode cX9_row 39 = .ok (.iaload, 1) := by decide +kernel
theorem dX9_row_40 : decode cX9_row 40 = .ok (.bipush 6, 2) := by decide +kernel
theorem dX9_row_42 : decode cX9_row 42 = .ok (.if_icmp .eq 6, 3) := by decide +kernel
theorem dX9_row_45 : decode cX9_row 45 = .ok (.bipush (-3), 2) := by decide +kernel
theorem dX9_row_47 : decode cX9_row 47 = .ok (.ireturn, 1) := by decide +kernel
theorem dX9_row_48 : decode cX9_row 48 = .ok (.aload_n 0, 1) := by decide +kernel
theorem dX9_row_49 : decode cX9_row 49 = .ok (.getfield 35, 3) := by decide +kernel
theorem dX9_row_52 : decode cX9_row 52 = .ok (.iconst 4, 1) := by decide +kernel
theorem dX9_row_53 : decode cX9_row 53 = .ok (.iload_n 1, 1) := by decide +kernel
theorem dX9_row_54 : decode cX9_row 54 = .ok (.imul, 1) := by decide +kernel
theorem dX9_row_55 : decode cX9_row 55 = .ok (.iload_n 2, 1) := by decide +kernel
theorem dX9_row_56 : decode cX9_row 56 = .ok (.iadd, 1) := by decide +kernel
theorem dX9_row_57 : decode cX9_row 57 = .ok (.iaload, 1) := by decide +kernel
theorem dX9_row_58 : decode cX9_row 58 = .ok (.istore 4, 2) := by decide +kernel
theorem dX9_row_60 : decode cX9_row 60 = .ok (.aload_n 0, 1) := by decide +kernel
theorem dX9_row_61 : decode cX9_row 61 = .ok (.getfield 35, 3) := by decide +kernel
theorem dX9_row_64 : decode cX9_row 64 = .ok (.iconst 4, 1) := by decide +kernel
theorem dX9_row_65 : decode cX9_row 65 = .ok (.iload_n 1, 1) := by decide +kernel
theorem dX9_row_66 : decode cX9_row 66 = .ok (.imul, 1) := by decide +kernel
theorem dX9_row_67 : decode cX9_row 67 = .ok (.iload_n 2, 1) := by decide +kernel
theorem dX9_row_68 : decode cX9_row 68 = .ok (.iadd, 1) := by decide +kernel
theorem dX9_row_69 : decode cX9_row 69 = .ok (.iload_n 3, 1) := by decide +kernel
theorem dX9_row_70 : decode cX9_row 70 = .ok (.iastore, 1) := by decide +kernel
theorem dX9_row_71 : decode cX9_row 71 = .ok (.iload 4, 2) := by decide +kernel
theorem dX9_row_73 : decode cX9_row 73 = .ok (.ireturn, 1) := by decide +kernel
def pX9_row : List (List gm_A) := [[(gm_aload 0), (gm_iload 1), (gm_vcall 9 101 2), (gm_ifeq 1), (gm_aload 0), (gm_iload 2), (gm_push (.inl 0)), (gm_push (.inl 3)), (gm_vcall 9 100 4), (gm_ifne 2), (gm_goto 1)],
  [(gm_push (.inl (-1))), gm_iret],
  [(gm_aload 0), (gm_iload 3), (gm_push (.inl 0)), (gm_push (.inl 9)), (gm_vcall 9 100 4), (gm_ifne 3), (gm_push (.inl (-2))), gm_iret],
  [(gm_aload 0), (gm_getR 9 902), (gm_iload 1), gm_iald, (gm_push (.inl 6)), (gm_ceq 4), (gm_push (.inl (-3))), gm_iret],
  [(gm_aload 0), (gm_getR 9 908), (gm_push (.inl 4)), (gm_iload 1), (gm_op2 gm_mul), (gm_iload 2), (gm_op2 gm_add), gm_iald, (gm_istore 4), (gm_aload 0), (gm_getR 9 908), (gm_push (.inl 4)), (gm_iload 1), (gm_op2 gm_mul), (gm_iload 2), (gm_op2 gm_add), (gm_iload 3), gm_iast, (gm_iload 4), gm_iret]]
def bpX9_row : Nat → Nat := fun b => ([0, 18, 20, 34, 48] : List Nat).getD b 0
set_option maxRecDepth 100000 in
theorem tX9_row {D : va_G} {sz : Nat} {ad : Nat → Nat} {cA : Nat → ClassId} {xs : Int → Int} {Ln : Int} {l : Launch} : gm_SB D sz ad cA xs Ln l gm_mt cX9_row "LongNoonModel" 5 false 1 bpX9_row 0 pX9_row :=
  ⟨gm_cn 1 (gm_m_aload _) (gm_s_aload_n dX9_row_0 rfl) (
    gm_cn 2 (gm_m_iload _) (gm_s_iload_n dX9_row_1 rfl) (
    gm_cn 5 (gm_m_vcall _ _ _) (gcl_X9_isHouse gw_281 dX9_row_2) (
    gm_cn 8 (gm_m_ifeq _) (gm_s_ifeq (bpc := bpX9_row) (b := 1) dX9_row_5 rfl) (
    gm_cn 9 (gm_m_aload _) (gm_s_aload_n dX9_row_8 rfl) (
    gm_cn 10 (gm_m_iload _) (gm_s_iload_n dX9_row_9 rfl) (
    gm_cn 11 (gm_m_push _) (gm_s_iconst dX9_row_10) (
    gm_cn 12 (gm_m_push _) (gm_s_iconst dX9_row_11) (
    gm_cn 15 (gm_m_vcall _ _ _) (gcl_X9_in gw_280 dX9_row_12) (
    gm_cn 18 (gm_m_ifne _) (gm_s_ifne (bpc := bpX9_row) (b := 2) dX9_row_15 rfl) (
    gm_cn 0 (gm_m_goto _) (gm_s_fall (bpc := bpX9_row) (b := 1) rfl 0) (
    trivial))))))))))),
  gm_cn 19 (gm_m_push _) (gm_s_iconst dX9_row_18) (
    gm_cn 0 gm_m_iret (gm_s_iret dX9_row_19 rfl 0) (
    trivial)),
  gm_cn 21 (gm_m_aload _) (gm_s_aload_n dX9_row_20 rfl) (
    gm_cn 22 (gm_m_iload _) (gm_s_iload_n dX9_row_21 rfl) (
    gm_cn 23 (gm_m_push _) (gm_s_iconst dX9_row_22) (
    gm_cn 25 (gm_m_push _) (gm_s_bipush dX9_row_23 rfl) (
    gm_cn 28 (gm_m_vcall _ _ _) (gcl_X9_in gw_280 dX9_row_25) (
    gm_cn 31 (gm_m_ifne _) (gm_s_ifne (bpc := bpX9_row) (b := 3) dX9_row_28 rfl) (
    gm_cn 33 (gm_m_push _) (gm_s_bipush dX9_row_31 rfl) (
    gm_cn 0 gm_m_iret (gm_s_iret dX9_row_33 rfl 0) (
    trivial)))))))),
  gm_cn 35 (gm_m_aload _) (gm_s_aload_n dX9_row_34 rfl) (
    gm_cn 38 (gm_m_getR _ _) (gf_getR_9_2 gw_217 dX9_row_35) (
    gm_cn 39 (gm_m_iload _) (gm_s_iload_n dX9_row_38 rfl) (
    gm_cn 40 gm_m_iald (gm_s_iald dX9_row_39) (
    gm_cn 42 (gm_m_push _) (gm_s_bipush dX9_row_40 rfl) (
    gm_cn 45 (gm_m_ceq _) (gm_s_ceq (bpc := bpX9_row) (b := 4) dX9_row_42 rfl) (
    gm_cn 47 (gm_m_push _) (gm_s_bipush dX9_row_45 rfl) (
    gm_cn 0 gm_m_iret (gm_s_iret dX9_row_47 rfl 0) (
    trivial)))))))),
  gm_cn 49 (gm_m_aload _) (gm_s_aload_n dX9_row_48 rfl) (
    gm_cn 52 (gm_m_getR _ _) (gf_getR_9_8 gw_223 dX9_row_49) (
    gm_cn 53 (gm_m_push _) (gm_s_iconst dX9_row_52) (
    gm_cn 54 (gm_m_iload _) (gm_s_iload_n dX9_row_53 rfl) (
    gm_cn 55 (gm_m_op2 _) (gm_s_imul dX9_row_54) (
    gm_cn 56 (gm_m_iload _) (gm_s_iload_n dX9_row_55 rfl) (
    gm_cn 57 (gm_m_op2 _) (gm_s_iadd dX9_row_56) (
    gm_cn 58 gm_m_iald (gm_s_iald dX9_row_57) (
    gm_cn 60 (gm_m_istore _) (gm_s_istore dX9_row_58 (by decide)) (
    gm_cn 61 (gm_m_aload _) (gm_s_aload_n dX9_row_60 rfl) (
    gm_cn 64 (gm_m_getR _ _) (gf_getR_9_8 gw_223 dX9_row_61) (
    gm_cn 65 (gm_m_push _) (gm_s_iconst dX9_row_64) (
    gm_cn 66 (gm_m_iload _) (gm_s_iload_n dX9_row_65 rfl) (
    gm_cn 67 (gm_m_op2 _) (gm_s_imul dX9_row_66) (
    gm_cn 68 (gm_m_iload _) (gm_s_iload_n dX9_row_67 rfl) (
    gm_cn 69 (gm_m_op2 _) (gm_s_iadd dX9_row_68) (
    gm_cn 70 (gm_m_iload _) (gm_s_iload_n dX9_row_69 rfl) (
    gm_cn 71 gm_m_iast (gm_s_iast dX9_row_70) (
    gm_cn 73 (gm_m_iload _) (gm_s_iload dX9_row_71) (
    gm_cn 0 gm_m_iret (gm_s_iret dX9_row_73 rfl 0) (
    trivial)))))))))))))))))))), trivial⟩
theorem dX9_feed_0 : decode cX9_feed 0 = .ok (.aload_n 0, 1) := by decide +kernel
theorem dX9_feed_1 : decode cX9_feed 1 = .ok (.iload_n 1, 1) := by decide +kernel
theorem dX9_feed_2 : decode cX9_feed 2 = .ok (.iconst 0, 1) := by decide +kernel
theorem dX9_feed_3 : decode cX9_feed 3 = .ok (.bipush 127, 2) := by decide +kernel
theorem dX9_feed_5 : decode cX9_feed 5 = .ok (.invokevirtual 206, 3) := by decide +kernel
theorem dX9_feed_8 : decode cX9_feed 8 = .ok (.ifCond .ne 6, 3) := by decide +kernel
theorem dX9_feed_11 : decode cX9_feed 11 = .ok (.bipush (-2), 2) := by decide +kernel
theorem dX9_feed_13 : decode cX9_feed 13 = .ok (.ireturn, 1) := by decide +kernel
theorem dX9_feed_14 : decode cX9_feed 14 = .ok (.aload_n 0, 1) := by decide +kernel
theorem dX9_feed_15 : decode cX9_feed 15 = .ok (.getfield 44, 3) := by decide +kernel
theorem dX9_feed_18 : decode cX9_feed 18 = .ok (.bipush 100, 2) := by decide +kernel
theorem dX9_feed_20 : decode cX9_feed 20 = .ok (.if_icmp .ne 6, 3) := by decide +kernel
theorem dX9_feed_23 : decode cX9_feed 23 = .ok (.bipush (-4), 2) := by decide +kernel
theorem dX9_feed_25 : decode cX9_feed 25 = .ok (.ireturn, 1) := by decide +kernel
theorem dX9_feed_26 : decode cX9_feed 26 = .ok (.aload_n 0, 1) := by decide +kernel
theorem dX9_feed_27 : decode cX9_feed 27 = .ok (.getfield 53, 3) := by decide +kernel
theorem dX9_feed_30 : decode cX9_feed 30 = .ok (.aload_n 0, 1) := by decide +kernel
theorem dX9_feed_31 : decode cX9_feed 31 = .ok (.getfield 44, 3) := by decide +kernel
theorem dX9_feed_34 : decode cX9_feed 34 = .ok (.iload_n 1, 1) := by decide +kernel
theorem dX9_feed_35 : decode cX9_feed 35 = .ok (.iastore, 1) := by decide +kernel
theorem dX9_feed_36 : decode cX9_feed 36 = .ok (.aload_n 0, 1) := by decide +kernel
theorem dX9_feed_37 : decode cX9_feed 37 = .ok (.dup, 1) := by decide +kernel
theorem dX9_feed_38 : decode cX9_feed 38 = .ok (.getfield 44, 3) := by decide +kernel
theorem dX9_feed_41 : decode cX9_feed 41 = .ok (.iconst 1, 1) := by decide +kernel
theorem dX9_feed_42 : decode cX9_feed 42 = .ok (.iadd, 1) := by decide +kernel
theorem dX9_feed_43 : decode cX9_feed 43 = .ok (.putfield 44, 3) := by decide +kernel
theorem dX9_feed_46 : decode cX9_feed 46 = .ok (.aload_n 0, 1) := by decide +kernel
theorem dX9_feed_47 : decode cX9_feed 47 = .ok (.getfield 44, 3) := by decide +kernel
theorem dX9_feed_50 : decode cX9_feed 50 = .ok (.ireturn, 1) := by decide +kernel
def pX9_feed : List (List gm_A) := [[(gm_aload 0), (gm_iload 1), (gm_push (.inl 0)), (gm_push (.inl 127)), (gm_vcall 9 100 4), (gm_ifne 1), (gm_push (.inl (-2))), gm_iret],
  [(gm_aload 0), (gm_getI 9 911), (gm_push (.inl 100)), (gm_cne 2), (gm_push (.inl (-4))), gm_iret],
  [(gm_aload 0), (gm_getR 9 914), (gm_aload 0), (gm_getI 9 911), (gm_iload 1), gm_iast, (gm_aload 0), gm_dup, (gm_getI 9 911), (gm_push (.inl 1)), (gm_op2 gm_add), (gm_putI 9 911), (gm_aload 0), (gm_getI 9 911), gm_iret]]
def bpX9_feed : Nat → Nat := fun b => ([0, 14, 26] : List Nat).getD b 0
set_option maxRecDepth 100000 in
theorem tX9_feed {D : va_G} {sz : Nat} {ad : Nat → Nat} {cA : Nat → ClassId} {xs : Int → Int} {Ln : Int} {l : Launch} : gm_SB D sz ad cA xs Ln l gm_mt cX9_feed "LongNoonModel" 2 false 1 bpX9_feed 0 pX9_feed :=
  ⟨gm_cn 1 (gm_m_aload _) (gm_s_aload_n dX9_feed_0 rfl) (
    gm_cn 2 (gm_m_iload _) (gm_s_iload_n dX9_feed_1 rfl) (
    gm_cn 3 (gm_m_push _) (gm_s_iconst dX9_feed_2) (
    gm_cn 5 (gm_m_push _) (gm_s_bipush dX9_feed_3 rfl) (
    gm_cn 8 (gm_m_vcall _ _ _) (gcl_X9_in gw_280 dX9_feed_5) (
    gm_cn 11 (gm_m_ifne _) (gm_s_ifne (bpc := bpX9_feed) (b := 1) dX9_feed_8 rfl) (
    gm_cn 13 (gm_m_push _) (gm_s_bipush dX9_feed_11 rfl) (
    gm_cn 0 gm_m_iret (gm_s_iret dX9_feed_13 rfl 0) (
    trivial)))))))),
  gm_cn 15 (gm_m_aload _) (gm_s_aload_n dX9_feed_14 rfl) (
    gm_cn 18 (gm_m_getI _ _) (gf_getI_9_11 gw_226 dX9_feed_15) (
    gm_cn 20 (gm_m_push _) (gm_s_bipush dX9_feed_18 rfl) (
    gm_cn 23 (gm_m_cne _) (gm_s_cne (bpc := bpX9_feed) (b := 2) dX9_feed_20 rfl) (
    gm_cn 25 (gm_m_push _) (gm_s_bipush dX9_feed_23 rfl) (
    gm_cn 0 gm_m_iret (gm_s_iret dX9_feed_25 rfl 0) (
    trivial)))))),
  gm_cn 27 (gm_m_aload _) (gm_s_aload_n dX9_feed_26 rfl) (
    gm_cn 30 (gm_m_getR _ _) (gf_getR_9_14 gw_229 dX9_feed_27) (
    gm_cn 31 (gm_m_aload _) (gm_s_aload_n dX9_feed_30 rfl) (
    gm_cn 34 (gm_m_getI _ _) (gf_getI_9_11 gw_226 dX9_feed_31) (
    gm_cn 35 (gm_m_iload _) (gm_s_iload_n dX9_feed_34 rfl) (
    gm_cn 36 gm_m_iast (gm_s_iast dX9_feed_35) (
    gm_cn 37 (gm_m_aload _) (gm_s_aload_n dX9_feed_36 rfl) (
    gm_cn 38 gm_m_dup (gm_s_dup dX9_feed_37) (
    gm_cn 41 (gm_m_getI _ _) (gf_getI_9_11 gw_226 dX9_feed_38) (
    gm_cn 42 (gm_m_push _) (gm_s_iconst dX9_feed_41) (
    gm_cn 43 (gm_m_op2 _) (gm_s_iadd dX9_feed_42) (
    gm_cn 46 (gm_m_putI _ _) (gf_putI_9_11 gw_226 dX9_feed_43) (
    gm_cn 47 (gm_m_aload _) (gm_s_aload_n dX9_feed_46 rfl) (
    gm_cn 50 (gm_m_getI _ _) (gf_getI_9_11 gw_226 dX9_feed_47) (
    gm_cn 0 gm_m_iret (gm_s_iret dX9_feed_50 rfl 0) (
    trivial))))))))))))))), trivial⟩
theorem dX9_next_0 : decode cX9_next 0 = .ok (.aload_n 0, 1) := by decide +kernel
theorem dX9_next_1 : decode cX9_next 1 = .ok (.getfield 47, 3) := by decide +kernel
theorem dX9_next_4 : decode cX9_next 4 = .ok (.aload_n 0, 1) := by decide +kernel
theorem dX9_next_5 : decode cX9_next 5 = .ok (.getfield 44, 3) := by decide +kernel
theorem dX9_next_8 : decode cX9_next 8 = .ok (.if_icmp .ge 15, 3) := by decide +kernel
theorem dX9_next_11 : decode cX9_next 11 = .ok (.aload_n 0, 1) := by decide +kernel
theorem dX9_next_12 : decode cX9_next 12 = .ok (.getfield 53, 3) := by decide +kernel
theorem dX9_next_15 : decode cX9_next 15 = .ok (.aload_n 0, 1) := by decide +kernel
theorem dX9_next_16 : decode cX9_next 16 = .ok (.getfield 47, 3) := by decide +kernel
theorem dX9_next_19 : decode cX9_next 19 = .ok (.iaload, 1) := by decide +kernel
theorem dX9_next_20 : decode cX9_next 20 = .ok (.goto 4, 3) := by decide +kernel
theorem dX9_next_23 : decode cX9_next 23 = .ok (.iconst (-1), 1) := by decide +kernel
theorem dX9_next_24 : decode cX9_next 24 = .ok (.ireturn, 1) := by decide +kernel
def pX9_next : List (List gm_A) := [[(gm_aload 0), (gm_getI 9 912), (gm_aload 0), (gm_getI 9 911), (gm_cge 1), (gm_aload 0), (gm_getR 9 914), (gm_aload 0), (gm_getI 9 912), gm_iald, (gm_goto 2)],
  [(gm_push (.inl (-1))), (gm_goto 2)],
  [gm_iret]]
def bpX9_next : Nat → Nat := fun b => ([0, 23, 24] : List Nat).getD b 0
set_option maxRecDepth 100000 in
theorem tX9_next {D : va_G} {sz : Nat} {ad : Nat → Nat} {cA : Nat → ClassId} {xs : Int → Int} {Ln : Int} {l : Launch} : gm_SB D sz ad cA xs Ln l gm_mt cX9_next "LongNoonModel" 1 false 1 bpX9_next 0 pX9_next :=
  ⟨gm_cn 1 (gm_m_aload _) (gm_s_aload_n dX9_next_0 rfl) (
    gm_cn 4 (gm_m_getI _ _) (gf_getI_9_12 gw_227 dX9_next_1) (
    gm_cn 5 (gm_m_aload _) (gm_s_aload_n dX9_next_4 rfl) (
    gm_cn 8 (gm_m_getI _ _) (gf_getI_9_11 gw_226 dX9_next_5) (
    gm_cn 11 (gm_m_cge _) (gm_s_cge (bpc := bpX9_next) (b := 1) dX9_next_8 rfl) (
    gm_cn 12 (gm_m_aload _) (gm_s_aload_n dX9_next_11 rfl) (
    gm_cn 15 (gm_m_getR _ _) (gf_getR_9_14 gw_229 dX9_next_12) (
    gm_cn 16 (gm_m_aload _) (gm_s_aload_n dX9_next_15 rfl) (
    gm_cn 19 (gm_m_getI _ _) (gf_getI_9_12 gw_227 dX9_next_16) (
    gm_cn 20 gm_m_iald (gm_s_iald dX9_next_19) (
    gm_cn 0 (gm_m_goto _) (gm_s_goto (bpc := bpX9_next) (b := 2) dX9_next_20 rfl 0) (
    trivial))))))))))),
  gm_cn 24 (gm_m_push _) (gm_s_iconst dX9_next_23) (
    gm_cn 0 (gm_m_goto _) (gm_s_fall (bpc := bpX9_next) (b := 2) rfl 0) (
    trivial)),
  gm_cn 0 gm_m_iret (gm_s_iret dX9_next_24 rfl 0) (
    trivial), trivial⟩
theorem dX9_takes_0 : decode cX9_takes 0 = .ok (.aload_n 0, 1) := by decide +kernel
theorem dX9_takes_1 : decode cX9_takes 1 = .ok (.invokevirtual 218, 3) := by decide +kernel
theorem dX9_takes_4 : decode cX9_takes 4 = .ok (.iload_n 1, 1) := by decide +kernel
theorem dX9_takes_5 : decode cX9_takes 5 = .ok (.if_icmp .eq 5, 3) := by decide +kernel
theorem dX9_takes_8 : decode cX9_takes 8 = .ok (.iconst 0, 1) := by decide +kernel
theorem dX9_takes_9 : decode cX9_takes 9 = .ok (.ireturn, 1) := by decide +kernel
theorem dX9_takes_10 : decode cX9_takes 10 = .ok (.aload_n 0, 1) := by decide +kernel
theorem dX9_takes_11 : decode cX9_takes 11 = .ok (.dup, 1) := by decide +kernel
theorem dX9_takes_12 : decode cX9_takes 12 = .ok (.getfield 47, 3) := by decide +kernel
theorem dX9_takes_15 : decode cX9_takes 15 = .ok (.iconst 1, 1) := by decide +kernel
theorem dX9_takes_16 : decode cX9_takes 16 = .ok (.iadd, 1) := by decide +kernel
theorem dX9_takes_17 : decode cX9_takes 17 = .ok (.putfield 47, 3) := by decide +kernel
theorem dX9_takes_20 : decode cX9_takes 20 = .ok (.iconst 1, 1) := by decide +kernel
theorem dX9_takes_21 : decode cX9_takes 21 = .ok (.ireturn, 1) := by decide +kernel
def pX9_takes : List (List gm_A) := [[(gm_aload 0), (gm_vcall 9 107 1), (gm_iload 1), (gm_ceq 1), (gm_push (.inl 0)), gm_zret],
  [(gm_aload 0), gm_dup, (gm_getI 9 912), (gm_push (.inl 1)), (gm_op2 gm_add), (gm_putI 9 912), (gm_push (.inl 1)), gm_zret]]
def bpX9_takes : Nat → Nat := fun b => ([0, 10] : List Nat).getD b 0
set_option maxRecDepth 100000 in
theorem tX9_takes {D : va_G} {sz : Nat} {ad : Nat → Nat} {cA : Nat → ClassId} {xs : Int → Int} {Ln : Int} {l : Launch} : gm_SB D sz ad cA xs Ln l gm_mt cX9_takes "LongNoonModel" 2 false 2 bpX9_takes 0 pX9_takes :=
  ⟨gm_cn 1 (gm_m_aload _) (gm_s_aload_n dX9_takes_0 rfl) (
    gm_cn 4 (gm_m_vcall _ _ _) (gcl_X9_next gw_283 dX9_takes_1) (
    gm_cn 5 (gm_m_iload _) (gm_s_iload_n dX9_takes_4 rfl) (
    gm_cn 8 (gm_m_ceq _) (gm_s_ceq (bpc := bpX9_takes) (b := 1) dX9_takes_5 rfl) (
    gm_cn 9 (gm_m_push _) (gm_s_iconst dX9_takes_8) (
    gm_cn 0 gm_m_zret (gm_s_zret dX9_takes_9 rfl 0) (
    trivial)))))),
  gm_cn 11 (gm_m_aload _) (gm_s_aload_n dX9_takes_10 rfl) (
    gm_cn 12 gm_m_dup (gm_s_dup dX9_takes_11) (
    gm_cn 15 (gm_m_getI _ _) (gf_getI_9_12 gw_227 dX9_takes_12) (
    gm_cn 16 (gm_m_push _) (gm_s_iconst dX9_takes_15) (
    gm_cn 17 (gm_m_op2 _) (gm_s_iadd dX9_takes_16) (
    gm_cn 20 (gm_m_putI _ _) (gf_putI_9_12 gw_227 dX9_takes_17) (
    gm_cn 21 (gm_m_push _) (gm_s_iconst dX9_takes_20) (
    gm_cn 0 gm_m_zret (gm_s_zret dX9_takes_21 rfl 0) (
    trivial)))))))), trivial⟩
theorem dX9_takesWord_0 : decode cX9_takesWord 0 = .ok (.iconst 0, 1) := by decide +kernel
theorem dX9_takesWord_1 : decode cX9_takesWord 1 = .ok (.istore_n 3, 1) := by decide +kernel
theorem dX9_takesWord_2 : decode cX9_takesWord 2 = .ok (.iload_n 3, 1) := by decide +kernel
theorem dX9_takesWord_3 : decode cX9_takesWord 3 = .ok (.iload_n 2, 1) := by decide +kernel
theorem dX9_takesWord_4 : decode cX9_takesWord 4 = .ok (.if_icmp .ge 26, 3) := by decide +kernel
theorem dX9_takesWord_7 : decode cX9_takesWord 7 = .ok (.aload_n 0, 1) := by decide +kernel
theorem dX9_takesWord_8 : decode cX9_takesWord 8 = .ok (.aload_n 0, 1) := by decide +kernel
theorem dX9_takesWord_9 : decode cX9_takesWord 9 = .ok (.getfield 86, 3) := by decide +kernel
theorem dX9_takesWord_12 : decode cX9_takesWord 12 = .ok (.iload_n 1, 1) := by decide +kernel
theorem dX9_takesWord_13 : decode cX9_takesWord 13 = .ok (.iload_n 3, 1) := by decide +kernel
theorem dX9_takesWord_14 : decode cX9_takesWord 14 = .ok (.iadd, 1) := by decide +kernel
theorem dX9_takesWord_15 : decode cX9_takesWord 15 = .ok (.iaload, 1) := by decide +kernel
theorem dX9_takesWord_16 : decode cX9_takesWord 16 = .ok (.invokevirtual 222, 3) := by decide +kernel
theorem dX9_takesWord_19 : decode cX9_takesWord 19 = .ok (.ifCond .ne 5, 3) := by decide +kernel
theorem dX9_takesWord_22 : decode cX9_takesWord 22 = .ok (.iconst 0, 1) := by decide +kernel
theorem dX9_takesWord_23 : decode cX9_takesWord 23 = .ok (.ireturn, 1) := by decide +kernel
theorem dX9_takesWord_24 : decode cX9_takesWord 24 = .ok (.iinc 3 1, 3) := by decide +kernel
theorem dX9_takesWord_27 : decode cX9_takesWord 27 = .ok (.goto (-25), 3) := by decide +kernel
theorem dX9_takesWord_30 : decode cX9_takesWord 30 = .ok (.aload_n 0, 1) := by decide +kernel
theorem dX9_takesWord_31 : decode cX9_takesWord 31 = .ok (.bipush 32, 2) := by decide +kernel
theorem dX9_takesWord_33 : decode cX9_takesWord 33 = .ok (.invokevirtual 222, 3) := by decide +kernel
theorem dX9_takesWord_36 : decode cX9_takesWord 36 = .ok (.ireturn, 1) := by decide +kernel
def pX9_takesWord : List (List gm_A) := [[(gm_push (.inl 0)), (gm_istore 3), (gm_goto 1)],
  [(gm_iload 3), (gm_iload 2), (gm_cge 3), (gm_aload 0), (gm_aload 0), (gm_getR 9 925), (gm_iload 1), (gm_iload 3), (gm_op2 gm_add), gm_iald, (gm_vcall 9 108 2), (gm_ifne 2), (gm_push (.inl 0)), gm_zret],
  [(gm_iinc 3 1), (gm_goto 1)],
  [(gm_aload 0), (gm_push (.inl 32)), (gm_vcall 9 108 2), gm_zret]]
def bpX9_takesWord : Nat → Nat := fun b => ([0, 2, 24, 30] : List Nat).getD b 0
set_option maxRecDepth 100000 in
theorem tX9_takesWord {D : va_G} {sz : Nat} {ad : Nat → Nat} {cA : Nat → ClassId} {xs : Int → Int} {Ln : Int} {l : Launch} : gm_SB D sz ad cA xs Ln l gm_mt cX9_takesWord "LongNoonModel" 4 false 2 bpX9_takesWord 0 pX9_takesWord :=
  ⟨gm_cn 1 (gm_m_push _) (gm_s_iconst dX9_takesWord_0) (
    gm_cn 2 (gm_m_istore _) (gm_s_istore_n dX9_takesWord_1 rfl (by decide)) (
    gm_cn 0 (gm_m_goto _) (gm_s_fall (bpc := bpX9_takesWord) (b := 1) rfl 0) (
    trivial))),
  gm_cn 3 (gm_m_iload _) (gm_s_iload_n dX9_takesWord_2 rfl) (
    gm_cn 4 (gm_m_iload _) (gm_s_iload_n dX9_takesWord_3 rfl) (
    gm_cn 7 (gm_m_cge _) (gm_s_cge (bpc := bpX9_takesWord) (b := 3) dX9_takesWord_4 rfl) (
    gm_cn 8 (gm_m_aload _) (gm_s_aload_n dX9_takesWord_7 rfl) (
    gm_cn 9 (gm_m_aload _) (gm_s_aload_n dX9_takesWord_8 rfl) (
    gm_cn 12 (gm_m_getR _ _) (gf_getR_9_25 gw_240 dX9_takesWord_9) (
    gm_cn 13 (gm_m_iload _) (gm_s_iload_n dX9_takesWord_12 rfl) (
    gm_cn 14 (gm_m_iload _) (gm_s_iload_n dX9_takesWord_13 rfl) (
    gm_cn 15 (gm_m_op2 _) (gm_s_iadd dX9_takesWord_14) (
    gm_cn 16 gm_m_iald (gm_s_iald dX9_takesWord_15) (
    gm_cn 19 (gm_m_vcall _ _ _) (gcl_X9_takes gw_284 dX9_takesWord_16) (
    gm_cn 22 (gm_m_ifne _) (gm_s_ifne (bpc := bpX9_takesWord) (b := 2) dX9_takesWord_19 rfl) (
    gm_cn 23 (gm_m_push _) (gm_s_iconst dX9_takesWord_22) (
    gm_cn 0 gm_m_zret (gm_s_zret dX9_takesWord_23 rfl 0) (
    trivial)))))))))))))),
  gm_cn 27 (gm_m_iinc _ _) (gm_s_iinc dX9_takesWord_24 (by decide)) (
    gm_cn 0 (gm_m_goto _) (gm_s_goto (bpc := bpX9_takesWord) (b := 1) dX9_takesWord_27 rfl 0) (
    trivial)),
  gm_cn 31 (gm_m_aload _) (gm_s_aload_n dX9_takesWord_30 rfl) (
    gm_cn 33 (gm_m_push _) (gm_s_bipush dX9_takesWord_31 rfl) (
    gm_cn 36 (gm_m_vcall _ _ _) (gcl_X9_takes gw_284 dX9_takesWord_33) (
    gm_cn 0 gm_m_zret (gm_s_zret dX9_takesWord_36 rfl 0) (
    trivial)))), trivial⟩
theorem dX9_isDigit_0 : decode cX9_isDigit 0 = .ok (.aload_n 0, 1) := by decide +kernel
theorem dX9_isDigit_1 : decode cX9_isDigit 1 = .ok (.aload_n 0, 1) := by decide +kernel
theorem dX9_isDigit_2 : decode cX9_isDigit 2 = .ok (.invokevirtual 218, 3) := by decide +kernel
theorem dX9_isDigit_5 : decode cX9_isDigit 5 = .ok (.bipush 48, 2) := by decide +kernel
theorem dX9_isDigit_7 : decode cX9_isDigit 7 = .ok (.bipush 57, 2) := by decide +kernel
theorem dX9_isDigit_9 : decode cX9_isDigit 9 = .ok (.invokevirtual 206, 3) := by decide +kernel
theorem dX9_isDigit_12 : decode cX9_isDigit 12 = .ok (.ireturn, 1) := by decide +kernel
def pX9_isDigit : List (List gm_A) := [[(gm_aload 0), (gm_aload 0), (gm_vcall 9 107 1), (gm_push (.inl 48)), (gm_push (.inl 57)), (gm_vcall 9 100 4), gm_zret]]
def bpX9_isDigit : Nat → Nat := fun b => ([0] : List Nat).getD b 0
set_option maxRecDepth 100000 in
theorem tX9_isDigit {D : va_G} {sz : Nat} {ad : Nat → Nat} {cA : Nat → ClassId} {xs : Int → Int} {Ln : Int} {l : Launch} : gm_SB D sz ad cA xs Ln l gm_mt cX9_isDigit "LongNoonModel" 1 false 2 bpX9_isDigit 0 pX9_isDigit :=
  ⟨gm_cn 1 (gm_m_aload _) (gm_s_aload_n dX9_isDigit_0 rfl) (
    gm_cn 2 (gm_m_aload _) (gm_s_aload_n dX9_isDigit_1 rfl) (
    gm_cn 5 (gm_m_vcall _ _ _) (gcl_X9_next gw_283 dX9_isDigit_2) (
    gm_cn 7 (gm_m_push _) (gm_s_bipush dX9_isDigit_5 rfl) (
    gm_cn 9 (gm_m_push _) (gm_s_bipush dX9_isDigit_7 rfl) (
    gm_cn 12 (gm_m_vcall _ _ _) (gcl_X9_in gw_280 dX9_isDigit_9) (
    gm_cn 0 gm_m_zret (gm_s_zret dX9_isDigit_12 rfl 0) (
    trivial))))))), trivial⟩
theorem dX9_takesNumber_0 : decode cX9_takesNumber 0 = .ok (.aload_n 0, 1) := by decide +kernel
theorem dX9_takesNumber_1 : decode cX9_takesNumber 1 = .ok (.invokevirtual 225, 3) := by decide +kernel
theorem dX9_takesNumber_4 : decode cX9_takesNumber 4 = .ok (.ifCond .ne 5, 3) := by decide +kernel
theorem dX9_takesNumber_7 : decode cX9_takesNumber 7 = .ok (.iconst 0, 1) := by decide +kernel
theorem dX9_takesNumber_8 : decode cX9_takesNumber 8 = .ok (.ireturn, 1) := by decide +kernel
theorem dX9_takesNumber_9 : decode cX9_takesNumber 9 = .ok (.aload_n 0, 1) := by decide +kernel
theorem dX9_takesNumber_10 : decode cX9_takesNumber 10 = .ok (.iconst 0, 1) := by decide +kernel
theorem dX9_takesNumber_11 : decode cX9_takesNumber 11 = .ok (.putfield 50, 3) := by decide +kernel
theorem dX9_takesNumber_14 : decode cX9_takesNumber 14 = .ok (.iconst 0, 1) := by decide +kernel
theorem dX9_takesNumber_15 : decode cX9_takesNumber 15 = .ok (.istore_n 1, 1) := by decide +kernel
theorem dX9_takesNumber_16 : decode cX9_takesNumber 16 = .ok (.iload_n 1, 1) := by decide +kernel
theorem dX9_takesNumber_17 : decode cX9_takesNumber 17 = .ok (.iconst 2, 1) := by decide +kernel
theorem dX9_takesNumber_18 : decode cX9_takesNumber 18 = .ok (.if_icmp .ge 45, 3) := by decide +kernel
theorem dX9_takesNumber_21 : decode cX9_takesNumber 21 = .ok (.aload_n 0, 1) := by decide +kernel
theorem dX9_takesNumber_22 : decode cX9_takesNumber 22 = .ok (.invokevirtual 225, 3) := by decide +kernel
theorem dX9_takesNumber_25 : decode cX9_takesNumber 25 = .ok (.ifCond .eq 38, 3) := by decide +kernel
theorem dX9_takesNumber_28 : decode cX9_takesNumber 28 = .ok (.aload_n 0, 1) := by decide +kernel
theorem dX9_takesNumber_29 : decode cX9_takesNumber 29 = .ok (.bipush 10, 2) := by decide +kernel
theorem dX9_takesNumber_31 : decode cX9_takesNumber 31 = .ok (.aload_n 0, 1) := by decide +kernel
theorem dX9_takesNumber_32 : decode cX9_takesNumber 32 = .ok (.getfield 50, 3) := by decide +kernel
theorem dX9_takesNumber_35 : decode cX9_takesNumber 35 = .ok (.imul, 1) := by decide +kernel
theorem dX9_takesNumber_36 : decode cX9_takesNumber 36 = .ok (.aload_n 0, 1) := by decide +kernel
theorem dX9_takesNumber_37 : decode cX9_takesNumber 37 = .ok (.invokevirtual 218, 3) := by decide +kernel
theorem dX9_takesNumber_40 : decode cX9_takesNumber 40 = .ok (.iadd, 1) := by decide +kernel
theorem dX9_takesNumber_41 : decode cX9_takesNumber 41 = .ok (.bipush 48, 2) := by decide +kernel
theorem dX9_takesNumber_43 : decode cX9_takesNumber 43 = .ok (.isub, 1) := by decide +kernel
theorem dX9_takesNumber_44 : decode cX9_takesNumber 44 = .ok (.putfield 50, 3) := by decide +kernel
theorem dX9_takesNumber_47 : decode cX9_takesNumber 47 = .ok (.aload_n 0, 1) := by decide +kernel
theorem dX9_takesNumber_48 : decode cX9_takesNumber 48 = .ok (.dup, 1) := by decide +kernel
theorem dX9_takesNumber_49 : decode cX9_takesNumber 49 = .ok (.getfield 47, 3) := by decide +kernel
theorem dX9_takesNumber_52 : decode cX9_takesNumber 52 = .ok (.iconst 1, 1) := by decide +kernel
theorem dX9_takesNumber_53 : decode cX9_takesNumber 53 = .ok (.iadd, 1) := by decide +kernel
theorem dX9_takesNumber_54 : decode cX9_takesNumber 54 = .ok (.putfield 47, 3) := by decide +kernel
theorem dX9_takesNumber_57 : decode cX9_takesNumber 57 = .ok (.iinc 1 1, 3) := by decide +kernel
theorem dX9_takesNumber_60 : decode cX9_takesNumber 60 = .ok (.goto (-44), 3) := by decide +kernel
theorem dX9_takesNumber_63 : decode cX9_takesNumber 63 = .ok (.iconst 1, 1) := by decide +kernel
theorem dX9_takesNumber_64 : decode cX9_takesNumber 64 = .ok (.ireturn, 1) := by decide +kernel
def pX9_takesNumber : List (List gm_A) := [[(gm_aload 0), (gm_vcall 9 110 1), (gm_ifne 1), (gm_push (.inl 0)), gm_zret],
  [(gm_aload 0), (gm_push (.inl 0)), (gm_putI 9 913), (gm_push (.inl 0)), (gm_istore 1), (gm_goto 2)],
  [(gm_iload 1), (gm_push (.inl 2)), (gm_cge 3), (gm_aload 0), (gm_vcall 9 110 1), (gm_ifeq 3), (gm_aload 0), (gm_push (.inl 10)), (gm_aload 0), (gm_getI 9 913), (gm_op2 gm_mul), (gm_aload 0), (gm_vcall 9 107 1), (gm_op2 gm_add), (gm_push (.inl 48)), (gm_op2 gm_sub), (gm_putI 9 913), (gm_aload 0), gm_dup, (gm_getI 9 912), (gm_push (.inl 1)), (gm_op2 gm_add), (gm_putI 9 912), (gm_iinc 1 1), (gm_goto 2)],
  [(gm_push (.inl 1)), gm_zret]]
def bpX9_takesNumber : Nat → Nat := fun b => ([0, 9, 16, 63] : List Nat).getD b 0
set_option maxRecDepth 100000 in
theorem tX9_takesNumber {D : va_G} {sz : Nat} {ad : Nat → Nat} {cA : Nat → ClassId} {xs : Int → Int} {Ln : Int} {l : Launch} : gm_SB D sz ad cA xs Ln l gm_mt cX9_takesNumber "LongNoonModel" 2 false 2 bpX9_takesNumber 0 pX9_takesNumber :=
  ⟨gm_cn 1 (gm_m_aload _) (gm_s_aload_n dX9_takesNumber_0 rfl) (
    gm_cn 4 (gm_m_vcall _ _ _) (gcl_X9_isDigit gw_285 dX9_takesNumber_1) (
    gm_cn 7 (gm_m_ifne _) (gm_s_ifne (bpc := bpX9_takesNumber) (b := 1) dX9_takesNumber_4 rfl) (
    gm_cn 8 (gm_m_push _) (gm_s_iconst dX9_takesNumber_7) (
    gm_cn 0 gm_m_zret (gm_s_zret dX9_takesNumber_8 rfl 0) (
    trivial))))),
  gm_cn 10 (gm_m_aload _) (gm_s_aload_n dX9_takesNumber_9 rfl) (
    gm_cn 11 (gm_m_push _) (gm_s_iconst dX9_takesNumber_10) (
    gm_cn 14 (gm_m_putI _ _) (gf_putI_9_13 gw_228 dX9_takesNumber_11) (
    gm_cn 15 (gm_m_push _) (gm_s_iconst dX9_takesNumber_14) (
    gm_cn 16 (gm_m_istore _) (gm_s_istore_n dX9_takesNumber_15 rfl (by decide)) (
    gm_cn 0 (gm_m_goto _) (gm_s_fall (bpc := bpX9_takesNumber) (b := 2) rfl 0) (
    trivial)))))),
  gm_cn 17 (gm_m_iload _) (gm_s_iload_n dX9_takesNumber_16 rfl) (
    gm_cn 18 (gm_m_push _) (gm_s_iconst dX9_takesNumber_17) (
    gm_cn 21 (gm_m_cge _) (gm_s_cge (bpc := bpX9_takesNumber) (b := 3) dX9_takesNumber_18 rfl) (
    gm_cn 22 (gm_m_aload _) (gm_s_aload_n dX9_takesNumber_21 rfl) (
    gm_cn 25 (gm_m_vcall _ _ _) (gcl_X9_isDigit gw_285 dX9_takesNumber_22) (
    gm_cn 28 (gm_m_ifeq _) (gm_s_ifeq (bpc := bpX9_takesNumber) (b := 3) dX9_takesNumber_25 rfl) (
    gm_cn 29 (gm_m_aload _) (gm_s_aload_n dX9_takesNumber_28 rfl) (
    gm_cn 31 (gm_m_push _) (gm_s_bipush dX9_takesNumber_29 rfl) (
    gm_cn 32 (gm_m_aload _) (gm_s_aload_n dX9_takesNumber_31 rfl) (
    gm_cn 35 (gm_m_getI _ _) (gf_getI_9_13 gw_228 dX9_takesNumber_32) (
    gm_cn 36 (gm_m_op2 _) (gm_s_imul dX9_takesNumber_35) (
    gm_cn 37 (gm_m_aload _) (gm_s_aload_n dX9_takesNumber_36 rfl) (
    gm_cn 40 (gm_m_vcall _ _ _) (gcl_X9_next gw_283 dX9_takesNumber_37) (
    gm_cn 41 (gm_m_op2 _) (gm_s_iadd dX9_takesNumber_40) (
    gm_cn 43 (gm_m_push _) (gm_s_bipush dX9_takesNumber_41 rfl) (
    gm_cn 44 (gm_m_op2 _) (gm_s_isub dX9_takesNumber_43) (
    gm_cn 47 (gm_m_putI _ _) (gf_putI_9_13 gw_228 dX9_takesNumber_44) (
    gm_cn 48 (gm_m_aload _) (gm_s_aload_n dX9_takesNumber_47 rfl) (
    gm_cn 49 gm_m_dup (gm_s_dup dX9_takesNumber_48) (
    gm_cn 52 (gm_m_getI _ _) (gf_getI_9_12 gw_227 dX9_takesNumber_49) (
    gm_cn 53 (gm_m_push _) (gm_s_iconst dX9_takesNumber_52) (
    gm_cn 54 (gm_m_op2 _) (gm_s_iadd dX9_takesNumber_53) (
    gm_cn 57 (gm_m_putI _ _) (gf_putI_9_12 gw_227 dX9_takesNumber_54) (
    gm_cn 60 (gm_m_iinc _ _) (gm_s_iinc dX9_takesNumber_57 (by decide)) (
    gm_cn 0 (gm_m_goto _) (gm_s_goto (bpc := bpX9_takesNumber) (b := 2) dX9_takesNumber_60 rfl 0) (
    trivial))))))))))))))))))))))))),
  gm_cn 64 (gm_m_push _) (gm_s_iconst dX9_takesNumber_63) (
    gm_cn 0 gm_m_zret (gm_s_zret dX9_takesNumber_64 rfl 0) (
    trivial)), trivial⟩
theorem dX9_emits_0 : decode cX9_emits 0 = .ok (.aload_n 0, 1) := by decide +kernel
theorem dX9_emits_1 : decode cX9_emits 1 = .ok (.getfield 71, 3) := by decide +kernel
theorem dX9_emits_4 : decode cX9_emits 4 = .ok (.aload_n 0, 1) := by decide +kernel
theorem dX9_emits_5 : decode cX9_emits 5 = .ok (.getfield 77, 3) := by decide +kernel
theorem dX9_emits_8 : decode cX9_emits 8 = .ok (.iload_n 1, 1) := by decide +kernel
theorem dX9_emits_9 : decode cX9_emits 9 = .ok (.iastore, 1) := by decide +kernel
theorem dX9_emits_10 : decode cX9_emits 10 = .ok (.aload_n 0, 1) := by decide +kernel
theorem dX9_emits_11 : decode cX9_emits 11 = .ok (.dup, 1) := by decide +kernel
theorem dX9_emits_12 : decode cX9_emits 12 = .ok (.getfield 77, 3) := by decide +kernel
theorem dX9_emits_15 : decode cX9_emits 15 = .ok (.iconst 1, 1) := by decide +kernel
theorem dX9_emits_16 : decode cX9_emits 16 = .ok (.iadd, 1) := by decide +kernel
theorem dX9_emits_17 : decode cX9_emits 17 = .ok (.putfield 77, 3) := by decide +kernel
theorem dX9_emits_20 : decode cX9_emits 20 = .ok (.return_, 1) := by decide +kernel
def pX9_emits : List (List gm_A) := [[(gm_aload 0), (gm_getR 9 920), (gm_aload 0), (gm_getI 9 922), (gm_iload 1), gm_iast, (gm_aload 0), gm_dup, (gm_getI 9 922), (gm_push (.inl 1)), (gm_op2 gm_add), (gm_putI 9 922), gm_vret]]
def bpX9_emits : Nat → Nat := fun b => ([0] : List Nat).getD b 0
set_option maxRecDepth 100000 in
theorem tX9_emits {D : va_G} {sz : Nat} {ad : Nat → Nat} {cA : Nat → ClassId} {xs : Int → Int} {Ln : Int} {l : Launch} : gm_SB D sz ad cA xs Ln l gm_mt cX9_emits "LongNoonModel" 2 false 0 bpX9_emits 0 pX9_emits :=
  ⟨gm_cn 1 (gm_m_aload _) (gm_s_aload_n dX9_emits_0 rfl) (
    gm_cn 4 (gm_m_getR _ _) (gf_getR_9_20 gw_235 dX9_emits_1) (
    gm_cn 5 (gm_m_aload _) (gm_s_aload_n dX9_emits_4 rfl) (
    gm_cn 8 (gm_m_getI _ _) (gf_getI_9_22 gw_237 dX9_emits_5) (
    gm_cn 9 (gm_m_iload _) (gm_s_iload_n dX9_emits_8 rfl) (
    gm_cn 10 gm_m_iast (gm_s_iast dX9_emits_9) (
    gm_cn 11 (gm_m_aload _) (gm_s_aload_n dX9_emits_10 rfl) (
    gm_cn 12 gm_m_dup (gm_s_dup dX9_emits_11) (
    gm_cn 15 (gm_m_getI _ _) (gf_getI_9_22 gw_237 dX9_emits_12) (
    gm_cn 16 (gm_m_push _) (gm_s_iconst dX9_emits_15) (
    gm_cn 17 (gm_m_op2 _) (gm_s_iadd dX9_emits_16) (
    gm_cn 20 (gm_m_putI _ _) (gf_putI_9_22 gw_237 dX9_emits_17) (
    gm_cn 0 gm_m_vret (gm_s_vret dX9_emits_20 rfl 0) (
    trivial))))))))))))), trivial⟩
theorem dX9_whole_0 : decode cX9_whole 0 = .ok (.aload_n 0, 1) := by decide +kernel
theorem dX9_whole_1 : decode cX9_whole 1 = .ok (.getfield 80, 3) := by decide +kernel
theorem dX9_whole_4 : decode cX9_whole 4 = .ok (.ifCond .le 48, 3) := by decide +kernel
theorem dX9_whole_7 : decode cX9_whole 7 = .ok (.aload_n 0, 1) := by decide +kernel
theorem dX9_whole_8 : decode cX9_whole 8 = .ok (.getfield 74, 3) := by decide +kernel
theorem dX9_whole_11 : decode cX9_whole 11 = .ok (.aload_n 0, 1) := by decide +kernel
theorem dX9_whole_12 : decode cX9_whole 12 = .ok (.getfield 80, 3) := by decide +kernel
theorem dX9_whole_15 : decode cX9_whole 15 = .ok (.iconst 1, 1) := by decide +kernel
theorem dX9_whole_16 : decode cX9_whole 16 = .ok (.isub, 1) := by decide +kernel
theorem dX9_whole_17 : decode cX9_whole 17 = .ok (.iaload, 1) := by decide +kernel
theorem dX9_whole_18 : decode cX9_whole 18 = .ok (.bipush 33, 2) := by decide +kernel
theorem dX9_whole_20 : decode cX9_whole 20 = .ok (.if_icmp .ne 32, 3) := by decide +kernel
theorem dX9_whole_23 : decode cX9_whole 23 = .ok (.aload_n 0, 1) := by decide +kernel
theorem dX9_whole_24 : decode cX9_whole 24 = .ok (.bipush (-33), 2) := by decide +kernel
theorem dX9_whole_26 : decode cX9_whole 26 = .ok (.invokevirtual 229, 3) := by decide +kernel
theorem dX9_whole_29 : decode cX9_whole 29 = .ok (.aload_n 0, 1) := by decide +kernel
theorem dX9_whole_30 : decode cX9_whole 30 = .ok (.dup, 1) := by decide +kernel
theorem dX9_whole_31 : decode cX9_whole 31 = .ok (.getfield 80, 3) := by decide +kernel
theorem dX9_whole_34 : decode cX9_whole 34 = .ok (.iconst 1, 1) := by decide +kernel
theorem dX9_whole_35 : decode cX9_whole 35 = .ok (.isub, 1) := by decide +kernel
theorem dX9_whole_36 : decode cX9_whole 36 = .ok (.putfield 80, 3) := by decide +kernel
theorem dX9_whole_39 : decode cX9_whole 39 = .ok (.aload_n 0, 1) := by decide +kernel
theorem dX9_whole_40 : decode cX9_whole 40 = .ok (.dup, 1) := by decide +kernel
theorem dX9_whole_41 : decode cX9_whole 41 = .ok (.getfield 83, 3) := by decide +kernel
theorem dX9_whole_44 : decode cX9_whole 44 = .ok (.iconst 1, 1) := by decide +kernel
theorem dX9_whole_45 : decode cX9_whole 45 = .ok (.isub, 1) := by decide +kernel
theorem dX9_whole_46 : decode cX9_whole 46 = .ok (.putfield 83, 3) := by decide +kernel
theorem dX9_whole_49 : decode cX9_whole 49 = .ok (.goto (-49), 3) := by decide +kernel
theorem dX9_whole_52 : decode cX9_whole 52 = .ok (.return_, 1) := by decide +kernel
def pX9_whole : List (List gm_A) := [[(gm_aload 0), (gm_getI 9 923), (gm_ifle 1), (gm_aload 0), (gm_getR 9 921), (gm_aload 0), (gm_getI 9 923), (gm_push (.inl 1)), (gm_op2 gm_sub), gm_iald, (gm_push (.inl 33)), (gm_cne 1), (gm_aload 0), (gm_push (.inl (-33))), (gm_vcall 9 112 2), (gm_aload 0), gm_dup, (gm_getI 9 923), (gm_push (.inl 1)), (gm_op2 gm_sub), (gm_putI 9 923), (gm_aload 0), gm_dup, (gm_getI 9 924), (gm_push (.inl 1)), (gm_op2 gm_sub), (gm_putI 9 924), (gm_goto 0)],
  [gm_vret]]
def bpX9_whole : Nat → Nat := fun b => ([0, 52] : List Nat).getD b 0
set_option maxRecDepth 100000 in
theorem tX9_whole {D : va_G} {sz : Nat} {ad : Nat → Nat} {cA : Nat → ClassId} {xs : Int → Int} {Ln : Int} {l : Launch} : gm_SB D sz ad cA xs Ln l gm_mt cX9_whole "LongNoonModel" 1 false 0 bpX9_whole 0 pX9_whole :=
  ⟨gm_cn 1 (gm_m_aload _) (gm_s_aload_n dX9_whole_0 rfl) (
    gm_cn 4 (gm_m_getI _ _) (gf_getI_9_23 gw_238 dX9_whole_1) (
    gm_cn 7 (gm_m_ifle _) (gm_s_ifle (bpc := bpX9_whole) (b := 1) dX9_whole_4 rfl) (
    gm_cn 8 (gm_m_aload _) (gm_s_aload_n dX9_whole_7 rfl) (
    gm_cn 11 (gm_m_getR _ _) (gf_getR_9_21 gw_236 dX9_whole_8) (
    gm_cn 12 (gm_m_aload _) (gm_s_aload_n dX9_whole_11 rfl) (
    gm_cn 15 (gm_m_getI _ _) (gf_getI_9_23 gw_238 dX9_whole_12) (
    gm_cn 16 (gm_m_push _) (gm_s_iconst dX9_whole_15) (
    gm_cn 17 (gm_m_op2 _) (gm_s_isub dX9_whole_16) (
    gm_cn 18 gm_m_iald (gm_s_iald dX9_whole_17) (
    gm_cn 20 (gm_m_push _) (gm_s_bipush dX9_whole_18 rfl) (
    gm_cn 23 (gm_m_cne _) (gm_s_cne (bpc := bpX9_whole) (b := 1) dX9_whole_20 rfl) (
    gm_cn 24 (gm_m_aload _) (gm_s_aload_n dX9_whole_23 rfl) (
    gm_cn 26 (gm_m_push _) (gm_s_bipush dX9_whole_24 rfl) (
    gm_cn 29 (gm_m_vcall _ _ _) (gcl_X9_emits gw_286 dX9_whole_26) (
    gm_cn 30 (gm_m_aload _) (gm_s_aload_n dX9_whole_29 rfl) (
    gm_cn 31 gm_m_dup (gm_s_dup dX9_whole_30) (
    gm_cn 34 (gm_m_getI _ _) (gf_getI_9_23 gw_238 dX9_whole_31) (
    gm_cn 35 (gm_m_push _) (gm_s_iconst dX9_whole_34) (
    gm_cn 36 (gm_m_op2 _) (gm_s_isub dX9_whole_35) (
    gm_cn 39 (gm_m_putI _ _) (gf_putI_9_23 gw_238 dX9_whole_36) (
    gm_cn 40 (gm_m_aload _) (gm_s_aload_n dX9_whole_39 rfl) (
    gm_cn 41 gm_m_dup (gm_s_dup dX9_whole_40) (
    gm_cn 44 (gm_m_getI _ _) (gf_getI_9_24 gw_239 dX9_whole_41) (
    gm_cn 45 (gm_m_push _) (gm_s_iconst dX9_whole_44) (
    gm_cn 46 (gm_m_op2 _) (gm_s_isub dX9_whole_45) (
    gm_cn 49 (gm_m_putI _ _) (gf_putI_9_24 gw_239 dX9_whole_46) (
    gm_cn 0 (gm_m_goto _) (gm_s_goto (bpc := bpX9_whole) (b := 0) dX9_whole_49 rfl 0) (
    trivial)))))))))))))))))))))))))))),
  gm_cn 0 gm_m_vret (gm_s_vret dX9_whole_52 rfl 0) (
    trivial), trivial⟩
theorem dX9_settle_0 : decode cX9_settle 0 = .ok (.aload_n 0, 1) := by decide +kernel
theorem dX9_settle_1 : decode cX9_settle 1 = .ok (.getfield 80, 3) := by decide +kernel
theorem dX9_settle_4 : decode cX9_settle 4 = .ok (.ifCond .le 68, 3) := by decide +kernel
theorem dX9_settle_7 : decode cX9_settle 7 = .ok (.aload_n 0, 1) := by decide +kernel
theorem dX9_settle_8 : decode cX9_settle 8 = .ok (.getfield 74, 3) := by decide +kernel
theorem dX9_settle_11 : decode cX9_settle 11 = .ok (.aload_n 0, 1) := by decide +kernel
theorem dX9_settle_12 : decode cX9_settle 12 = .ok (.getfield 80, 3) := by decide +kernel
theorem dX9_settle_15 : decode cX9_settle 15 = .ok (.iconst 1, 1) := by decide +kernel
theorem dX9_settle_16 : decode cX9_settle 16 = .ok (.isub, 1) := by decide +kernel
theorem dX9_settle_17 : decode cX9_settle 17 = .ok (.iaload, 1) := by decide +kernel
theorem dX9_settle_18 : decode cX9_settle 18 = .ok (.bipush 38, 2) := by decide +kernel
theorem dX9_settle_20 : decode cX9_settle 20 = .ok (.if_icmp .eq 25, 3) := by decide +kernel
theorem dX9_settle_23 : decode cX9_settle 23 = .ok (.aload_n 0, 1) := by decide +kernel
theorem dX9_settle_24 : decode cX9_settle 24 = .ok (.getfield 74, 3) := by decide +kernel
theorem dX9_settle_27 : decode cX9_settle 27 = .ok (.aload_n 0, 1) := by decide +kernel
theorem dX9_settle_28 : decode cX9_settle 28 = .ok (.getfield 80, 3) := by decide +kernel
theorem dX9_settle_31 : decode cX9_settle 31 = .ok (.iconst 1, 1) := by decide +kernel
theorem dX9_settle_32 : decode cX9_settle 32 = .ok (.isub, 1) := by decide +kernel
theorem dX9_settle_33 : decode cX9_settle 33 = .ok (.iaload, 1) := by decide +kernel
theorem dX9_settle_34 : decode cX9_settle 34 = .ok (.bipush 124, 2) := by decide +kernel
theorem dX9_settle_36 : decode cX9_settle 36 = .ok (.if_icmp .ne 36, 3) := by decide +kernel
theorem dX9_settle_39 : decode cX9_settle 39 = .ok (.iload_n 1, 1) := by decide +kernel
theorem dX9_settle_40 : decode cX9_settle 40 = .ok (.bipush 38, 2) := by decide +kernel
theorem dX9_settle_42 : decode cX9_settle 42 = .ok (.if_icmp .eq 30, 3) := by decide +kernel
theorem dX9_settle_45 : decode cX9_settle 45 = .ok (.aload_n 0, 1) := by decide +kernel
theorem dX9_settle_46 : decode cX9_settle 46 = .ok (.dup, 1) := by decide +kernel
theorem dX9_settle_47 : decode cX9_settle 47 = .ok (.getfield 80, 3) := by decide +kernel
theorem dX9_settle_50 : decode cX9_settle 50 = .ok (.iconst 1, 1) := by decide +kernel
theorem dX9_settle_51 : decode cX9_settle 51 = .ok (.isub, 1) := by decide +kernel
theorem dX9_settle_52 : decode cX9_settle 52 = .ok (.putfield 80, 3) := by decide +kernel
theorem dX9_settle_55 : decode cX9_settle 55 = .ok (.aload_n 0, 1) := by decide +kernel
theorem dX9_settle_56 : decode cX9_settle 56 = .ok (.aload_n 0, 1) := by decide +kernel
theorem dX9_settle_57 : decode cX9_settle 57 = .ok (.getfield 74, 3) := by decide +kernel
theorem dX9_settle_60 : decode cX9_settle 60 = .ok (.aload_n 0, 1) := by decide +kernel
theorem dX9_settle_61 : decode cX9_settle 61 = .ok (.getfield 80, 3) := by decide +kernel
theorem dX9_settle_64 : decode cX9_settle 64 = .ok (.iaload, 1) := by decide +kernel
theorem dX9_settle_65 : decode cX9_settle 65 = .ok (.ineg, 1) := by decide +kernel
theorem dX9_settle_66 : decode cX9_settle 66 = .ok (.invokevirtual 229, 3) := by decide +kernel
theorem dX9_settle_69 : decode cX9_settle 69 = .ok (.goto (-69), 3) := by decide +kernel
theorem dX9_settle_72 : decode cX9_settle 72 = .ok (.return_, 1) := by decide +kernel
def pX9_settle : List (List gm_A) := [[(gm_aload 0), (gm_getI 9 923), (gm_ifle 2), (gm_aload 0), (gm_getR 9 921), (gm_aload 0), (gm_getI 9 923), (gm_push (.inl 1)), (gm_op2 gm_sub), gm_iald, (gm_push (.inl 38)), (gm_ceq 1), (gm_aload 0), (gm_getR 9 921), (gm_aload 0), (gm_getI 9 923), (gm_push (.inl 1)), (gm_op2 gm_sub), gm_iald, (gm_push (.inl 124)), (gm_cne 2), (gm_iload 1), (gm_push (.inl 38)), (gm_ceq 2), (gm_goto 1)],
  [(gm_aload 0), gm_dup, (gm_getI 9 923), (gm_push (.inl 1)), (gm_op2 gm_sub), (gm_putI 9 923), (gm_aload 0), (gm_aload 0), (gm_getR 9 921), (gm_aload 0), (gm_getI 9 923), gm_iald, (gm_op1 gm_neg), (gm_vcall 9 112 2), (gm_goto 0)],
  [gm_vret]]
def bpX9_settle : Nat → Nat := fun b => ([0, 45, 72] : List Nat).getD b 0
set_option maxRecDepth 100000 in
theorem tX9_settle {D : va_G} {sz : Nat} {ad : Nat → Nat} {cA : Nat → ClassId} {xs : Int → Int} {Ln : Int} {l : Launch} : gm_SB D sz ad cA xs Ln l gm_mt cX9_settle "LongNoonModel" 2 false 0 bpX9_settle 0 pX9_settle :=
  ⟨gm_cn 1 (gm_m_aload _) (gm_s_aload_n dX9_settle_0 rfl) (
    gm_cn 4 (gm_m_getI _ _) (gf_getI_9_23 gw_238 dX9_settle_1) (
    gm_cn 7 (gm_m_ifle _) (gm_s_ifle (bpc := bpX9_settle) (b := 2) dX9_settle_4 rfl) (
    gm_cn 8 (gm_m_aload _) (gm_s_aload_n dX9_settle_7 rfl) (
    gm_cn 11 (gm_m_getR _ _) (gf_getR_9_21 gw_236 dX9_settle_8) (
    gm_cn 12 (gm_m_aload _) (gm_s_aload_n dX9_settle_11 rfl) (
    gm_cn 15 (gm_m_getI _ _) (gf_getI_9_23 gw_238 dX9_settle_12) (
    gm_cn 16 (gm_m_push _) (gm_s_iconst dX9_settle_15) (
    gm_cn 17 (gm_m_op2 _) (gm_s_isub dX9_settle_16) (
    gm_cn 18 gm_m_iald (gm_s_iald dX9_settle_17) (
    gm_cn 20 (gm_m_push _) (gm_s_bipush dX9_settle_18 rfl) (
    gm_cn 23 (gm_m_ceq _) (gm_s_ceq (bpc := bpX9_settle) (b := 1) dX9_settle_20 rfl) (
    gm_cn 24 (gm_m_aload _) (gm_s_aload_n dX9_settle_23 rfl) (
    gm_cn 27 (gm_m_getR _ _) (gf_getR_9_21 gw_236 dX9_settle_24) (
    gm_cn 28 (gm_m_aload _) (gm_s_aload_n dX9_settle_27 rfl) (
    gm_cn 31 (gm_m_getI _ _) (gf_getI_9_23 gw_238 dX9_settle_28) (
    gm_cn 32 (gm_m_push _) (gm_s_iconst dX9_settle_31) (
    gm_cn 33 (gm_m_op2 _) (gm_s_isub dX9_settle_32) (
    gm_cn 34 gm_m_iald (gm_s_iald dX9_settle_33) (
    gm_cn 36 (gm_m_push _) (gm_s_bipush dX9_settle_34 rfl) (
    gm_cn 39 (gm_m_cne _) (gm_s_cne (bpc := bpX9_settle) (b := 2) dX9_settle_36 rfl) (
    gm_cn 40 (gm_m_iload _) (gm_s_iload_n dX9_settle_39 rfl) (
    gm_cn 42 (gm_m_push _) (gm_s_bipush dX9_settle_40 rfl) (
    gm_cn 45 (gm_m_ceq _) (gm_s_ceq (bpc := bpX9_settle) (b := 2) dX9_settle_42 rfl) (
    gm_cn 0 (gm_m_goto _) (gm_s_fall (bpc := bpX9_settle) (b := 1) rfl 0) (
    trivial))))))))))))))))))))))))),
  gm_cn 46 (gm_m_aload _) (gm_s_aload_n dX9_settle_45 rfl) (
    gm_cn 47 gm_m_dup (gm_s_dup dX9_settle_46) (
    gm_cn 50 (gm_m_getI _ _) (gf_getI_9_23 gw_238 dX9_settle_47) (
    gm_cn 51 (gm_m_push _) (gm_s_iconst dX9_settle_50) (
    gm_cn 52 (gm_m_op2 _) (gm_s_isub dX9_settle_51) (
    gm_cn 55 (gm_m_putI _ _) (gf_putI_9_23 gw_238 dX9_settle_52) (
    gm_cn 56 (gm_m_aload _) (gm_s_aload_n dX9_settle_55 rfl) (
    gm_cn 57 (gm_m_aload _) (gm_s_aload_n dX9_settle_56 rfl) (
    gm_cn 60 (gm_m_getR _ _) (gf_getR_9_21 gw_236 dX9_settle_57) (
    gm_cn 61 (gm_m_aload _) (gm_s_aload_n dX9_settle_60 rfl) (
    gm_cn 64 (gm_m_getI _ _) (gf_getI_9_23 gw_238 dX9_settle_61) (
    gm_cn 65 gm_m_iald (gm_s_iald dX9_settle_64) (
    gm_cn 66 (gm_m_op1 _) (gm_s_ineg dX9_settle_65) (
    gm_cn 69 (gm_m_vcall _ _ _) (gcl_X9_emits gw_286 dX9_settle_66) (
    gm_cn 0 (gm_m_goto _) (gm_s_goto (bpc := bpX9_settle) (b := 0) dX9_settle_69 rfl 0) (
    trivial))))))))))))))),
  gm_cn 0 gm_m_vret (gm_s_vret dX9_settle_72 rfl 0) (
    trivial), trivial⟩
theorem dX9_place_0 : decode cX9_place 0 = .ok (.iload_n 1, 1) := by decide +kernel
theorem dX9_place_1 : decode cX9_place 1 = .ok (.tableswitch 99 101 118 #[95, 99, 99, 87, 99, 99, 89, 99, 93, 99, 99, 99, 99, 99, 97, 99, 99, 91], 87) := by decide +kernel
theorem dX9_place_88 : decode cX9_place 88 = .ok (.iconst 0, 1) := by decide +kernel
theorem dX9_place_89 : decode cX9_place 89 = .ok (.ireturn, 1) := by decide +kernel
theorem dX9_place_90 : decode cX9_place 90 = .ok (.iconst 1, 1) := by decide +kernel
theorem dX9_place_91 : decode cX9_place 91 = .ok (.ireturn, 1) := by decide +kernel
theorem dX9_place_92 : decode cX9_place 92 = .ok (.iconst 2, 1) := by decide +kernel
theorem dX9_place_93 : decode cX9_place 93 = .ok (.ireturn, 1) := by decide +kernel
theorem dX9_place_94 : decode cX9_place 94 = .ok (.iconst 3, 1) := by decide +kernel
theorem dX9_place_95 : decode cX9_place 95 = .ok (.ireturn, 1) := by decide +kernel
theorem dX9_place_96 : decode cX9_place 96 = .ok (.iconst 4, 1) := by decide +kernel
theorem dX9_place_97 : decode cX9_place 97 = .ok (.ireturn, 1) := by decide +kernel
theorem dX9_place_98 : decode cX9_place 98 = .ok (.iconst 5, 1) := by decide +kernel
theorem dX9_place_99 : decode cX9_place 99 = .ok (.ireturn, 1) := by decide +kernel
theorem dX9_place_100 : decode cX9_place 100 = .ok (.iconst (-1), 1) := by decide +kernel
theorem dX9_place_101 : decode cX9_place 101 = .ok (.ireturn, 1) := by decide +kernel
def pX9_place : List (List gm_A) := [[(gm_iload 1), (gm_switch [(101, 5), (102, 7), (103, 7), (104, 1), (105, 7), (106, 7), (107, 2), (108, 7), (109, 4), (110, 7), (111, 7), (112, 7), (113, 7), (114, 7), (115, 6), (116, 7), (117, 7), (118, 3)] 7)],
  [(gm_push (.inl 0)), gm_iret],
  [(gm_push (.inl 1)), gm_iret],
  [(gm_push (.inl 2)), gm_iret],
  [(gm_push (.inl 3)), gm_iret],
  [(gm_push (.inl 4)), gm_iret],
  [(gm_push (.inl 5)), gm_iret],
  [(gm_push (.inl (-1))), gm_iret]]
def bpX9_place : Nat → Nat := fun b => ([0, 88, 90, 92, 94, 96, 98, 100] : List Nat).getD b 0
set_option maxRecDepth 100000 in
theorem tX9_place {D : va_G} {sz : Nat} {ad : Nat → Nat} {cA : Nat → ClassId} {xs : Int → Int} {Ln : Int} {l : Launch} : gm_SB D sz ad cA xs Ln l gm_mt cX9_place "LongNoonModel" 2 false 1 bpX9_place 0 pX9_place :=
  ⟨gm_cn 1 (gm_m_iload _) (gm_s_iload_n dX9_place_0 rfl) (
    gm_cn 0 (gm_m_switch _ _) (gm_s_table (bpc := bpX9_place) (ps := [(101, 5), (102, 7), (103, 7), (104, 1), (105, 7), (106, 7), (107, 2), (108, 7), (109, 4), (110, 7), (111, 7), (112, 7), (113, 7), (114, 7), (115, 6), (116, 7), (117, 7), (118, 3)]) (d := 7) dX9_place_1 rfl rfl rfl 0) (
    trivial)),
  gm_cn 89 (gm_m_push _) (gm_s_iconst dX9_place_88) (
    gm_cn 0 gm_m_iret (gm_s_iret dX9_place_89 rfl 0) (
    trivial)),
  gm_cn 91 (gm_m_push _) (gm_s_iconst dX9_place_90) (
    gm_cn 0 gm_m_iret (gm_s_iret dX9_place_91 rfl 0) (
    trivial)),
  gm_cn 93 (gm_m_push _) (gm_s_iconst dX9_place_92) (
    gm_cn 0 gm_m_iret (gm_s_iret dX9_place_93 rfl 0) (
    trivial)),
  gm_cn 95 (gm_m_push _) (gm_s_iconst dX9_place_94) (
    gm_cn 0 gm_m_iret (gm_s_iret dX9_place_95 rfl 0) (
    trivial)),
  gm_cn 97 (gm_m_push _) (gm_s_iconst dX9_place_96) (
    gm_cn 0 gm_m_iret (gm_s_iret dX9_place_97 rfl 0) (
    trivial)),
  gm_cn 99 (gm_m_push _) (gm_s_iconst dX9_place_98) (
    gm_cn 0 gm_m_iret (gm_s_iret dX9_place_99 rfl 0) (
    trivial)),
  gm_cn 101 (gm_m_push _) (gm_s_iconst dX9_place_100) (
    gm_cn 0 gm_m_iret (gm_s_iret dX9_place_101 rfl 0) (
    trivial)), trivial⟩
theorem dX9_takesTest_0 : decode cX9_takesTest 0 = .ok (.aload_n 0, 1) := by decide +kernel
theorem dX9_takesTest_1 : decode cX9_takesTest 1 = .ok (.aload_n 0, 1) := by decide +kernel
theorem dX9_takesTest_2 : decode cX9_takesTest 2 = .ok (.invokevirtual 218, 3) := by decide +kernel
theorem dX9_takesTest_5 : decode cX9_takesTest 5 = .ok (.invokevirtual 233, 3) := by decide +kernel
theorem dX9_takesTest_8 : decode cX9_takesTest 8 = .ok (.istore_n 1, 1) := by decide +kernel
theorem dX9_takesTest_9 : decode cX9_takesTest 9 = .ok (.iload_n 1, 1) := by decide +kernel
theorem dX9_takesTest_10 : decode cX9_takesTest 10 = .ok (.ifCond .ge 5, 3) := by decide +kernel
theorem dX9_takesTest_13 : decode cX9_takesTest 13 = .ok (.iconst 0, 1) := by decide +kernel
theorem dX9_takesTest_14 : decode cX9_takesTest 14 = .ok (.ireturn, 1) := by decide +kernel
theorem dX9_takesTest_15 : decode cX9_takesTest 15 = .ok (.aload_n 0, 1) := by decide +kernel
theorem dX9_takesTest_16 : decode cX9_takesTest 16 = .ok (.dup, 1) := by decide +kernel
theorem dX9_takesTest_17 : decode cX9_takesTest 17 = .ok (.getfield 47, 3) := by decide +kernel
theorem dX9_takesTest_20 : decode cX9_takesTest 20 = .ok (.iconst 1, 1) := by decide +kernel
theorem dX9_takesTest_21 : decode cX9_takesTest 21 = .ok (.iadd, 1) := by decide +kernel
theorem dX9_takesTest_22 : decode cX9_takesTest 22 = .ok (.putfield 47, 3) := by decide +kernel
theorem dX9_takesTest_25 : decode cX9_takesTest 25 = .ok (.aload_n 0, 1) := by decide +kernel
theorem dX9_takesTest_26 : decode cX9_takesTest 26 = .ok (.invokevirtual 218, 3) := by decide +kernel
theorem dX9_takesTest_29 : decode cX9_takesTest 29 = .ok (.istore_n 2, 1) := by decide +kernel
theorem dX9_takesTest_30 : decode cX9_takesTest 30 = .ok (.aload_n 0, 1) := by decide +kernel
theorem dX9_takesTest_31 : decode cX9_takesTest 31 = .ok (.iload_n 2, 1) := by decide +kernel
theorem dX9_takesTest_32 : decode cX9_takesTest 32 = .ok (.bipush 60, 2) := by decide +kernel
theorem dX9_takesTest_34 : decode cX9_takesTest 34 = .ok (.bipush 62, 2) := by decide +kernel
theorem dX9_takesTest_36 : decode cX9_takesTest 36 = .ok (.invokevirtual 206, 3) := by decide +kernel
theorem dX9_takesTest_39 : decode cX9_takesTest 39 = .ok (.ifCond .ne 5, 3) := by decide +kernel
theorem dX9_takesTest_42 : decode cX9_takesTest 42 = .ok (.iconst 0, 1) := by decide +kernel
theorem dX9_takesTest_43 : decode cX9_takesTest 43 = .ok (.ireturn, 1) := by decide +kernel
theorem dX9_takesTest_44 : decode cX9_takesTest 44 = .ok (.aload_n 0, 1) := by decide +kernel
theorem dX9_takesTest_45 : decode cX9_takesTest 45 = .ok (.dup, 1) := by decide +kernel
theorem dX9_takesTest_46 : decode cX9_takesTest 46 = .ok (.getfield 47, 3) := by decide +kernel
theorem dX9_takesTest_49 : decode cX9_takesTest 49 = .ok (.iconst 1, 1) := by decide +kernel
theorem dX9_takesTest_50 : decode cX9_takesTest 50 = .ok (.iadd, 1) := by decide +kernel
theorem dX9_takesTest_51 : decode cX9_takesTest 51 = .ok (.putfield 47, 3) := by decide +kernel
theorem dX9_takesTest_54 : decode cX9_takesTest 54 = .ok (.aload_n 0, 1) := by decide +kernel
theorem dX9_takesTest_55 : decode cX9_takesTest 55 = .ok (.invokevirtual 236, 3) := by decide +kernel
theorem dX9_takesTest_58 : decode cX9_takesTest 58 = .ok (.ifCond .ne 5, 3) := by decide +kernel
theorem dX9_takesTest_61 : decode cX9_takesTest 61 = .ok (.iconst 0, 1) := by decide +kernel
theorem dX9_takesTest_62 : decode cX9_takesTest 62 = .ok (.ireturn, 1) := by decide +kernel
theorem dX9_takesTest_63 : decode cX9_takesTest 63 = .ok (.aload_n 0, 1) := by decide +kernel
theorem dX9_takesTest_64 : decode cX9_takesTest 64 = .ok (.sipush 1000, 3) := by decide +kernel
theorem dX9_takesTest_67 : decode cX9_takesTest 67 = .ok (.iload_n 1, 1) := by decide +kernel
theorem dX9_takesTest_68 : decode cX9_takesTest 68 = .ok (.imul, 1) := by decide +kernel
theorem dX9_takesTest_69 : decode cX9_takesTest 69 = .ok (.bipush 100, 2) := by decide +kernel
theorem dX9_takesTest_71 : decode cX9_takesTest 71 = .ok (.iload_n 2, 1) := by decide +kernel
theorem dX9_takesTest_72 : decode cX9_takesTest 72 = .ok (.bipush 60, 2) := by decide +kernel
theorem dX9_takesTest_74 : decode cX9_takesTest 74 = .ok (.isub, 1) := by decide +kernel
theorem dX9_takesTest_75 : decode cX9_takesTest 75 = .ok (.imul, 1) := by decide +kernel
theorem dX9_takesTest_76 : decode cX9_takesTest 76 = .ok (.iadd, 1) := by decide +kernel
theorem dX9_takesTest_77 : decode cX9_takesTest 77 = .ok (.aload_n 0, 1) := by decide +kernel
theorem dX9_takesTest_78 : decode cX9_takesTest 78 = .ok (.getfield 50, 3) := by decide +kernel
theorem dX9_takesTest_81 : decode cX9_takesTest 81 = .ok (.iadd, 1) := by decide +kernel
theorem dX9_takesTest_82 : decode cX9_takesTest 82 = .ok (.invokevirtual 229, 3) := by decide +kernel
theorem dX9_takesTest_85 : decode cX9_takesTest 85 = .ok (.aload_n 0, 1) := by decide +kernel
theorem dX9_takesTest_86 : decode cX9_takesTest 86 = .ok (.invokevirtual 239, 3) := by decide +kernel
theorem dX9_takesTest_89 : decode cX9_takesTest 89 = .ok (.iconst 1, 1) := by decide +kernel
theorem dX9_takesTest_90 : decode cX9_takesTest 90 = .ok (.ireturn, 1) := by decide +kernel
def pX9_takesTest : List (List gm_A) := [[(gm_aload 0), (gm_aload 0), (gm_vcall 9 107 1), (gm_vcall 9 115 2), (gm_istore 1), (gm_iload 1), (gm_ifge 1), (gm_push (.inl 0)), gm_zret],
  [(gm_aload 0), gm_dup, (gm_getI 9 912), (gm_push (.inl 1)), (gm_op2 gm_add), (gm_putI 9 912), (gm_aload 0), (gm_vcall 9 107 1), (gm_istore 2), (gm_aload 0), (gm_iload 2), (gm_push (.inl 60)), (gm_push (.inl 62)), (gm_vcall 9 100 4), (gm_ifne 2), (gm_push (.inl 0)), gm_zret],
  [(gm_aload 0), gm_dup, (gm_getI 9 912), (gm_push (.inl 1)), (gm_op2 gm_add), (gm_putI 9 912), (gm_aload 0), (gm_vcall 9 111 1), (gm_ifne 3), (gm_push (.inl 0)), gm_zret],
  [(gm_aload 0), (gm_push (.inl 1000)), (gm_iload 1), (gm_op2 gm_mul), (gm_push (.inl 100)), (gm_iload 2), (gm_push (.inl 60)), (gm_op2 gm_sub), (gm_op2 gm_mul), (gm_op2 gm_add), (gm_aload 0), (gm_getI 9 913), (gm_op2 gm_add), (gm_vcall 9 112 2), (gm_aload 0), (gm_vcall 9 113 1), (gm_push (.inl 1)), gm_zret]]
def bpX9_takesTest : Nat → Nat := fun b => ([0, 15, 44, 63] : List Nat).getD b 0
set_option maxRecDepth 100000 in
theorem tX9_takesTest {D : va_G} {sz : Nat} {ad : Nat → Nat} {cA : Nat → ClassId} {xs : Int → Int} {Ln : Int} {l : Launch} : gm_SB D sz ad cA xs Ln l gm_mt cX9_takesTest "LongNoonModel" 3 false 2 bpX9_takesTest 0 pX9_takesTest :=
  ⟨gm_cn 1 (gm_m_aload _) (gm_s_aload_n dX9_takesTest_0 rfl) (
    gm_cn 2 (gm_m_aload _) (gm_s_aload_n dX9_takesTest_1 rfl) (
    gm_cn 5 (gm_m_vcall _ _ _) (gcl_X9_next gw_283 dX9_takesTest_2) (
    gm_cn 8 (gm_m_vcall _ _ _) (gcl_X9_place gw_287 dX9_takesTest_5) (
    gm_cn 9 (gm_m_istore _) (gm_s_istore_n dX9_takesTest_8 rfl (by decide)) (
    gm_cn 10 (gm_m_iload _) (gm_s_iload_n dX9_takesTest_9 rfl) (
    gm_cn 13 (gm_m_ifge _) (gm_s_ifge (bpc := bpX9_takesTest) (b := 1) dX9_takesTest_10 rfl) (
    gm_cn 14 (gm_m_push _) (gm_s_iconst dX9_takesTest_13) (
    gm_cn 0 gm_m_zret (gm_s_zret dX9_takesTest_14 rfl 0) (
    trivial))))))))),
  gm_cn 16 (gm_m_aload _) (gm_s_aload_n dX9_takesTest_15 rfl) (
    gm_cn 17 gm_m_dup (gm_s_dup dX9_takesTest_16) (
    gm_cn 20 (gm_m_getI _ _) (gf_getI_9_12 gw_227 dX9_takesTest_17) (
    gm_cn 21 (gm_m_push _) (gm_s_iconst dX9_takesTest_20) (
    gm_cn 22 (gm_m_op2 _) (gm_s_iadd dX9_takesTest_21) (
    gm_cn 25 (gm_m_putI _ _) (gf_putI_9_12 gw_227 dX9_takesTest_22) (
    gm_cn 26 (gm_m_aload _) (gm_s_aload_n dX9_takesTest_25 rfl) (
    gm_cn 29 (gm_m_vcall _ _ _) (gcl_X9_next gw_283 dX9_takesTest_26) (
    gm_cn 30 (gm_m_istore _) (gm_s_istore_n dX9_takesTest_29 rfl (by decide)) (
    gm_cn 31 (gm_m_aload _) (gm_s_aload_n dX9_takesTest_30 rfl) (
    gm_cn 32 (gm_m_iload _) (gm_s_iload_n dX9_takesTest_31 rfl) (
    gm_cn 34 (gm_m_push _) (gm_s_bipush dX9_takesTest_32 rfl) (
    gm_cn 36 (gm_m_push _) (gm_s_bipush dX9_takesTest_34 rfl) (
    gm_cn 39 (gm_m_vcall _ _ _) (gcl_X9_in gw_280 dX9_takesTest_36) (
    gm_cn 42 (gm_m_ifne _) (gm_s_ifne (bpc := bpX9_takesTest) (b := 2) dX9_takesTest_39 rfl) (
    gm_cn 43 (gm_m_push _) (gm_s_iconst dX9_takesTest_42) (
    gm_cn 0 gm_m_zret (gm_s_zret dX9_takesTest_43 rfl 0) (
    trivial))))))))))))))))),
  gm_cn 45 (gm_m_aload _) (gm_s_aload_n dX9_takesTest_44 rfl) (
    gm_cn 46 gm_m_dup (gm_s_dup dX9_takesTest_45) (
    gm_cn 49 (gm_m_getI _ _) (gf_getI_9_12 gw_227 dX9_takesTest_46) (
    gm_cn 50 (gm_m_push _) (gm_s_iconst dX9_takesTest_49) (
    gm_cn 51 (gm_m_op2 _) (gm_s_iadd dX9_takesTest_50) (
    gm_cn 54 (gm_m_putI _ _) (gf_putI_9_12 gw_227 dX9_takesTest_51) (
    gm_cn 55 (gm_m_aload _) (gm_s_aload_n dX9_takesTest_54 rfl) (
    gm_cn 58 (gm_m_vcall _ _ _) (gcl_X9_takesNumber gw_288 dX9_takesTest_55) (
    gm_cn 61 (gm_m_ifne _) (gm_s_ifne (bpc := bpX9_takesTest) (b := 3) dX9_takesTest_58 rfl) (
    gm_cn 62 (gm_m_push _) (gm_s_iconst dX9_takesTest_61) (
    gm_cn 0 gm_m_zret (gm_s_zret dX9_takesTest_62 rfl 0) (
    trivial))))))))))),
  gm_cn 64 (gm_m_aload _) (gm_s_aload_n dX9_takesTest_63 rfl) (
    gm_cn 67 (gm_m_push _) (gm_s_sipush dX9_takesTest_64 rfl) (
    gm_cn 68 (gm_m_iload _) (gm_s_iload_n dX9_takesTest_67 rfl) (
    gm_cn 69 (gm_m_op2 _) (gm_s_imul dX9_takesTest_68) (
    gm_cn 71 (gm_m_push _) (gm_s_bipush dX9_takesTest_69 rfl) (
    gm_cn 72 (gm_m_iload _) (gm_s_iload_n dX9_takesTest_71 rfl) (
    gm_cn 74 (gm_m_push _) (gm_s_bipush dX9_takesTest_72 rfl) (
    gm_cn 75 (gm_m_op2 _) (gm_s_isub dX9_takesTest_74) (
    gm_cn 76 (gm_m_op2 _) (gm_s_imul dX9_takesTest_75) (
    gm_cn 77 (gm_m_op2 _) (gm_s_iadd dX9_takesTest_76) (
    gm_cn 78 (gm_m_aload _) (gm_s_aload_n dX9_takesTest_77 rfl) (
    gm_cn 81 (gm_m_getI _ _) (gf_getI_9_13 gw_228 dX9_takesTest_78) (
    gm_cn 82 (gm_m_op2 _) (gm_s_iadd dX9_takesTest_81) (
    gm_cn 85 (gm_m_vcall _ _ _) (gcl_X9_emits gw_286 dX9_takesTest_82) (
    gm_cn 86 (gm_m_aload _) (gm_s_aload_n dX9_takesTest_85 rfl) (
    gm_cn 89 (gm_m_vcall _ _ _) (gcl_X9_whole gw_289 dX9_takesTest_86) (
    gm_cn 90 (gm_m_push _) (gm_s_iconst dX9_takesTest_89) (
    gm_cn 0 gm_m_zret (gm_s_zret dX9_takesTest_90 rfl 0) (
    trivial)))))))))))))))))), trivial⟩
theorem dX9_takesE_0 : decode cX9_takesE 0 = .ok (.aload_n 0, 1) := by decide +kernel
theorem dX9_takesE_1 : decode cX9_takesE 1 = .ok (.iconst 0, 1) := by decide +kernel
theorem dX9_takesE_2 : decode cX9_takesE 2 = .ok (.putfield 80, 3) := by decide +kernel
theorem dX9_takesE_5 : decode cX9_takesE 5 = .ok (.aload_n 0, 1) := by decide +kernel
theorem dX9_takesE_6 : decode cX9_takesE 6 = .ok (.iconst 0, 1) := by decide +kernel
theorem dX9_takesE_7 : decode cX9_takesE 7 = .ok (.putfield 83, 3) := by decide +kernel
theorem dX9_takesE_10 : decode cX9_takesE 10 = .ok (.aload_n 0, 1) := by decide +kernel
theorem dX9_takesE_11 : decode cX9_takesE 11 = .ok (.getfield 65, 3) := by decide +kernel
theorem dX9_takesE_14 : decode cX9_takesE 14 = .ok (.iload_n 1, 1) := by decide +kernel
theorem dX9_takesE_15 : decode cX9_takesE 15 = .ok (.aload_n 0, 1) := by decide +kernel
theorem dX9_takesE_16 : decode cX9_takesE 16 = .ok (.getfield 77, 3) := by decide +kernel
theorem dX9_takesE_19 : decode cX9_takesE 19 = .ok (.iastore, 1) := by decide +kernel
theorem dX9_takesE_20 : decode cX9_takesE 20 = .ok (.iconst 1, 1) := by decide +kernel
theorem dX9_takesE_21 : decode cX9_takesE 21 = .ok (.istore_n 2, 1) := by decide +kernel
theorem dX9_takesE_22 : decode cX9_takesE 22 = .ok (.aload_n 0, 1) := by decide +kernel
theorem dX9_takesE_23 : decode cX9_takesE 23 = .ok (.invokevirtual 218, 3) := by decide +kernel
theorem dX9_takesE_26 : decode cX9_takesE 26 = .ok (.istore_n 3, 1) := by decide +kernel
theorem dX9_takesE_27 : decode cX9_takesE 27 = .ok (.iload_n 2, 1) := by decide +kernel
theorem dX9_takesE_28 : decode cX9_takesE 28 = .ok (.ifCond .eq 82, 3) := by decide +kernel
theorem dX9_takesE_31 : decode cX9_takesE 31 = .ok (.iload_n 3, 1) := by decide +kernel
theorem dX9_takesE_32 : decode cX9_takesE 32 = .ok (.bipush 33, 2) := by decide +kernel
theorem dX9_takesE_34 : decode cX9_takesE 34 = .ok (.if_icmp .eq 9, 3) := by decide +kernel
theorem dX9_takesE_37 : decode cX9_takesE 37 = .ok (.iload_n 3, 1) := by decide +kernel
theorem dX9_takesE_38 : decode cX9_takesE 38 = .ok (.bipush 40, 2) := by decide +kernel
theorem dX9_takesE_40 : decode cX9_takesE 40 = .ok (.if_icmp .ne 56, 3) := by decide +kernel
theorem dX9_takesE_43 : decode cX9_takesE 43 = .ok (.aload_n 0, 1) := by decide +kernel
theorem dX9_takesE_44 : decode cX9_takesE 44 = .ok (.getfield 83, 3) := by decide +kernel
theorem dX9_takesE_47 : decode cX9_takesE 47 = .ok (.iconst 4, 1) := by decide +kernel
theorem dX9_takesE_48 : decode cX9_takesE 48 = .ok (.if_icmp .ne 5, 3) := by decide +kernel
theorem dX9_takesE_51 : decode cX9_takesE 51 = .ok (.iconst 0, 1) := by decide +kernel
theorem dX9_takesE_52 : decode cX9_takesE 52 = .ok (.ireturn, 1) := by decide +kernel
theorem dX9_takesE_53 : decode cX9_takesE 53 = .ok (.aload_n 0, 1) := by decide +kernel
theorem dX9_takesE_54 : decode cX9_takesE 54 = .ok (.dup, 1) := by decide +kernel
theorem dX9_takesE_55 : decode cX9_takesE 55 = .ok (.getfield 83, 3) := by decide +kernel
theorem dX9_takesE_58 : decode cX9_takesE 58 = .ok (.iconst 1, 1) := by decide +kernel
theorem dX9_takesE_59 : decode cX9_takesE 59 = .ok (.iadd, 1) := by decide +kernel
theorem dX9_takesE_60 : decode cX9_takesE 60 = .ok (.putfield 83, 3) := by decide +kernel
theorem dX9_takesE_63 : decode cX9_takesE 63 = .ok (.aload_n 0, 1) := by decide +kernel
theorem dX9_takesE_64 : decode cX9_takesE 64 = .ok (.getfield 74, 3) := by decide +kernel
theorem dX9_takesE_67 : decode cX9_takesE 67 = .ok (.aload_n 0, 1) := by decide +kernel
theorem dX9_takesE_68 : decode cX9_takesE 68 = .ok (.getfield 80, 3) := by decide +kernel
theorem dX9_takesE_71 : decode cX9_takesE 71 = .ok (.iload_n 3, 1) := by decide +kernel
theorem dX9_takesE_72 : decode cX9_takesE 72 = .ok (.iastore, 1) := by decide +kernel
theorem dX9_takesE_73 : decode cX9_takesE 73 = .ok (.aload_n 0, 1) := by decide +kernel
theorem dX9_takesE_74 : decode cX9_takesE 74 = .ok (.dup, 1) := by decide +kernel
theorem dX9_takesE_75 : decode cX9_takesE 75 = .ok (.getfield 80, 3) := by decide +kernel
theorem dX9_takesE_78 : decode cX9_takesE 78 = .ok (.iconst 1, 1) := by decide +kernel
theorem dX9_takesE_79 : decode cX9_takesE 79 = .ok (.iadd, 1) := by decide +kernel
theorem dX9_takesE_80 : decode cX9_takesE 80 = .ok (.putfield 80, 3) := by decide +kernel
theorem dX9_takesE_83 : decode cX9_takesE 83 = .ok (.aload_n 0, 1) := by decide +kernel
theorem dX9_takesE_84 : decode cX9_takesE 84 = .ok (.dup, 1) := by decide +kernel
theorem dX9_takesE_85 : decode cX9_takesE 85 = .ok (.getfield 47, 3) := by decide +kernel
theorem dX9_takesE_88 : decode cX9_takesE 88 = .ok (.iconst 1, 1) := by decide +kernel
theorem dX9_takesE_89 : decode cX9_takesE 89 = .ok (.iadd, 1) := by decide +kernel
theorem dX9_takesE_90 : decode cX9_takesE 90 = .ok (.putfield 47, 3) := by decide +kernel
theorem dX9_takesE_93 : decode cX9_takesE 93 = .ok (.goto (-71), 3) := by decide +kernel
theorem dX9_takesE_96 : decode cX9_takesE 96 = .ok (.aload_n 0, 1) := by decide +kernel
theorem dX9_takesE_97 : decode cX9_takesE 97 = .ok (.invokevirtual 242, 3) := by decide +kernel
theorem dX9_takesE_100 : decode cX9_takesE 100 = .ok (.ifCond .eq 8, 3) := by decide +kernel
theorem dX9_takesE_103 : decode cX9_takesE 103 = .ok (.iconst 0, 1) := by decide +kernel
theorem dX9_takesE_104 : decode cX9_takesE 104 = .ok (.istore_n 2, 1) := by decide +kernel
theorem dX9_takesE_105 : decode cX9_takesE 105 = .ok (.goto (-83), 3) := by decide +kernel
theorem dX9_takesE_108 : decode cX9_takesE 108 = .ok (.iconst 0, 1) := by decide +kernel
theorem dX9_takesE_109 : decode cX9_takesE 109 = .ok (.ireturn, 1) := by decide +kernel
theorem dX9_takesE_110 : decode cX9_takesE 110 = .ok (.iload_n 3, 1) := by decide +kernel
theorem dX9_takesE_111 : decode cX9_takesE 111 = .ok (.bipush 38, 2) := by decide +kernel
theorem dX9_takesE_113 : decode cX9_takesE 113 = .ok (.if_icmp .eq 9, 3) := by decide +kernel
theorem dX9_takesE_116 : decode cX9_takesE 116 = .ok (.iload_n 3, 1) := by decide +kernel
theorem dX9_takesE_117 : decode cX9_takesE 117 = .ok (.bipush 124, 2) := by decide +kernel
theorem dX9_takesE_119 : decode cX9_takesE 119 = .ok (.if_icmp .ne 43, 3) := by decide +kernel
theorem dX9_takesE_122 : decode cX9_takesE 122 = .ok (.aload_n 0, 1) := by decide +kernel
theorem dX9_takesE_123 : decode cX9_takesE 123 = .ok (.iload_n 3, 1) := by decide +kernel
theorem dX9_takesE_124 : decode cX9_takesE 124 = .ok (.invokevirtual 245, 3) := by decide +kernel
theorem dX9_takesE_127 : decode cX9_takesE 127 = .ok (.aload_n 0, 1) := by decide +kernel
theorem dX9_takesE_128 : decode cX9_takesE 128 = .ok (.getfield 74, 3) := by decide +kernel
theorem dX9_takesE_131 : decode cX9_takesE 131 = .ok (.aload_n 0, 1) := by decide +kernel
theorem dX9_takesE_132 : decode cX9_takesE 132 = .ok (.getfield 80, 3) := by decide +kernel
theorem dX9_takesE_135 : decode cX9_takesE 135 = .ok (.iload_n 3, 1) := by decide +kernel
theorem dX9_takesE_136 : decode cX9_takesE 136 = .ok (.iastore, 1) := by decide +kernel
theorem dX9_takesE_137 : decode cX9_takesE 137 = .ok (.aload_n 0, 1) := by decide +kernel
theorem dX9_takesE_138 : decode cX9_takesE 138 = .ok (.dup, 1) := by decide +kernel
theorem dX9_takesE_139 : decode cX9_takesE 139 = .ok (.getfield 80, 3) := by decide +kernel
theorem dX9_takesE_142 : decode cX9_takesE 142 = .ok (.iconst 1, 1) := by decide +kernel
theorem dX9_takesE_143 : decode cX9_takesE 143 = .ok (.iadd, 1) := by decide +kernel
theorem dX9_takesE_144 : decode cX9_takesE 144 = .ok (.putfield 80, 3) := by decide +kernel
theorem dX9_takesE_147 : decode cX9_takesE 147 = .ok (.iconst 1, 1) := by decide +kernel
theorem dX9_takesE_148 : decode cX9_takesE 148 = .ok (.istore_n 2, 1) := by decide +kernel
theorem dX9_takesE_149 : decode cX9_takesE 149 = .ok (.aload_n 0, 1) := by decide +kernel
theorem dX9_takesE_150 : decode cX9_takesE 150 = .ok (.dup, 1) := by decide +kernel
theorem dX9_takesE_151 : decode cX9_takesE 151 = .ok (.getfield 47, 3) := by decide +kernel
theorem dX9_takesE_154 : decode cX9_takesE 154 = .ok (.iconst 1, 1) := by decide +kernel
theorem dX9_takesE_155 : decode cX9_takesE 155 = .ok (.iadd, 1) := by decide +kernel
theorem dX9_takesE_156 : decode cX9_takesE 156 = .ok (.putfield 47, 3) := by decide +kernel
theorem dX9_takesE_159 : decode cX9_takesE 159 = .ok (.goto (-137), 3) := by decide +kernel
theorem dX9_takesE_162 : decode cX9_takesE 162 = .ok (.aload_n 0, 1) := by decide +kernel
theorem dX9_takesE_163 : decode cX9_takesE 163 = .ok (.bipush 124, 2) := by decide +kernel
theorem dX9_takesE_165 : decode cX9_takesE 165 = .ok (.invokevirtual 245, 3) := by decide +kernel
theorem dX9_takesE_168 : decode cX9_takesE 168 = .ok (.aload_n 0, 1) := by decide +kernel
theorem dX9_takesE_169 : decode cX9_takesE 169 = .ok (.getfield 68, 3) := by decide +kernel
theorem dX9_takesE_172 : decode cX9_takesE 172 = .ok (.iload_n 1, 1) := by decide +kernel
theorem dX9_takesE_173 : decode cX9_takesE 173 = .ok (.aload_n 0, 1) := by decide +kernel
theorem dX9_takesE_174 : decode cX9_takesE 174 = .ok (.getfield 77, 3) := by decide +kernel
theorem dX9_takesE_177 : decode cX9_takesE 177 = .ok (.iastore, 1) := by decide +kernel
theorem dX9_takesE_178 : decode cX9_takesE 178 = .ok (.aload_n 0, 1) := by decide +kernel
theorem dX9_takesE_179 : decode cX9_takesE 179 = .ok (.getfield 80, 3) := by decide +kernel
theorem dX9_takesE_182 : decode cX9_takesE 182 = .ok (.ifCond .ne 5, 3) := by decide +kernel
theorem dX9_takesE_185 : decode cX9_takesE 185 = .ok (.iconst 1, 1) := by decide +kernel
theorem dX9_takesE_186 : decode cX9_takesE 186 = .ok (.ireturn, 1) := by decide +kernel
theorem dX9_takesE_187 : decode cX9_takesE 187 = .ok (.iload_n 3, 1) := by decide +kernel
theorem dX9_takesE_188 : decode cX9_takesE 188 = .ok (.bipush 41, 2) := by decide +kernel
theorem dX9_takesE_190 : decode cX9_takesE 190 = .ok (.if_icmp .eq 5, 3) := by decide +kernel
theorem dX9_takesE_193 : decode cX9_takesE 193 = .ok (.iconst 0, 1) := by decide +kernel
theorem dX9_takesE_194 : decode cX9_takesE 194 = .ok (.ireturn, 1) := by decide +kernel
theorem dX9_takesE_195 : decode cX9_takesE 195 = .ok (.aload_n 0, 1) := by decide +kernel
theorem dX9_takesE_196 : decode cX9_takesE 196 = .ok (.dup, 1) := by decide +kernel
theorem dX9_takesE_197 : decode cX9_takesE 197 = .ok (.getfield 80, 3) := by decide +kernel
theorem dX9_takesE_200 : decode cX9_takesE 200 = .ok (.iconst 1, 1) := by decide +kernel
theorem dX9_takesE_201 : decode cX9_takesE 201 = .ok (.isub, 1) := by decide +kernel
theorem dX9_takesE_202 : decode cX9_takesE 202 = .ok (.putfield 80, 3) := by decide +kernel
theorem dX9_takesE_205 : decode cX9_takesE 205 = .ok (.aload_n 0, 1) := by decide +kernel
theorem dX9_takesE_206 : decode cX9_takesE 206 = .ok (.dup, 1) := by decide +kernel
theorem dX9_takesE_207 : decode cX9_takesE 207 = .ok (.getfield 83, 3) := by decide +kernel
theorem dX9_takesE_210 : decode cX9_takesE 210 = .ok (.iconst 1, 1) := by decide +kernel
theorem dX9_takesE_211 : decode cX9_takesE 211 = .ok (.isub, 1) := by decide +kernel
theorem dX9_takesE_212 : decode cX9_takesE 212 = .ok (.putfield 83, 3) := by decide +kernel
theorem dX9_takesE_215 : decode cX9_takesE 215 = .ok (.aload_n 0, 1) := by decide +kernel
theorem dX9_takesE_216 : decode cX9_takesE 216 = .ok (.dup, 1) := by decide +kernel
theorem dX9_takesE_217 : decode cX9_takesE 217 = .ok (.getfield 47, 3) := by decide +kernel
theorem dX9_takesE_220 : decode cX9_takesE 220 = .ok (.iconst 1, 1) := by decide +kernel
theorem dX9_takesE_221 : decode cX9_takesE 221 = .ok (.iadd, 1) := by decide +kernel
theorem dX9_takesE_222 : decode cX9_takesE 222 = .ok (.putfield 47, 3) := by decide +kernel
theorem dX9_takesE_225 : decode cX9_takesE 225 = .ok (.aload_n 0, 1) := by decide +kernel
theorem dX9_takesE_226 : decode cX9_takesE 226 = .ok (.invokevirtual 239, 3) := by decide +kernel
theorem dX9_takesE_229 : decode cX9_takesE 229 = .ok (.goto (-207), 3) := by decide +kernel
def pX9_takesE : List (List gm_A) := [[(gm_aload 0), (gm_push (.inl 0)), (gm_putI 9 923), (gm_aload 0), (gm_push (.inl 0)), (gm_putI 9 924), (gm_aload 0), (gm_getR 9 918), (gm_iload 1), (gm_aload 0), (gm_getI 9 922), gm_iast, (gm_push (.inl 1)), (gm_istore 2), (gm_goto 1)],
  [(gm_aload 0), (gm_vcall 9 107 1), (gm_istore 3), (gm_iload 2), (gm_ifeq 6), (gm_iload 3), (gm_push (.inl 33)), (gm_ceq 2), (gm_iload 3), (gm_push (.inl 40)), (gm_cne 4), (gm_goto 2)],
  [(gm_aload 0), (gm_getI 9 924), (gm_push (.inl 4)), (gm_cne 3), (gm_push (.inl 0)), gm_zret],
  [(gm_aload 0), gm_dup, (gm_getI 9 924), (gm_push (.inl 1)), (gm_op2 gm_add), (gm_putI 9 924), (gm_aload 0), (gm_getR 9 921), (gm_aload 0), (gm_getI 9 923), (gm_iload 3), gm_iast, (gm_aload 0), gm_dup, (gm_getI 9 923), (gm_push (.inl 1)), (gm_op2 gm_add), (gm_putI 9 923), (gm_aload 0), gm_dup, (gm_getI 9 912), (gm_push (.inl 1)), (gm_op2 gm_add), (gm_putI 9 912), (gm_goto 1)],
  [(gm_aload 0), (gm_vcall 9 116 1), (gm_ifeq 5), (gm_push (.inl 0)), (gm_istore 2), (gm_goto 1)],
  [(gm_push (.inl 0)), gm_zret],
  [(gm_iload 3), (gm_push (.inl 38)), (gm_ceq 7), (gm_iload 3), (gm_push (.inl 124)), (gm_cne 8), (gm_goto 7)],
  [(gm_aload 0), (gm_iload 3), (gm_vcall 9 114 2), (gm_aload 0), (gm_getR 9 921), (gm_aload 0), (gm_getI 9 923), (gm_iload 3), gm_iast, (gm_aload 0), gm_dup, (gm_getI 9 923), (gm_push (.inl 1)), (gm_op2 gm_add), (gm_putI 9 923), (gm_push (.inl 1)), (gm_istore 2), (gm_aload 0), gm_dup, (gm_getI 9 912), (gm_push (.inl 1)), (gm_op2 gm_add), (gm_putI 9 912), (gm_goto 1)],
  [(gm_aload 0), (gm_push (.inl 124)), (gm_vcall 9 114 2), (gm_aload 0), (gm_getR 9 919), (gm_iload 1), (gm_aload 0), (gm_getI 9 922), gm_iast, (gm_aload 0), (gm_getI 9 923), (gm_ifne 9), (gm_push (.inl 1)), gm_zret],
  [(gm_iload 3), (gm_push (.inl 41)), (gm_ceq 10), (gm_push (.inl 0)), gm_zret],
  [(gm_aload 0), gm_dup, (gm_getI 9 923), (gm_push (.inl 1)), (gm_op2 gm_sub), (gm_putI 9 923), (gm_aload 0), gm_dup, (gm_getI 9 924), (gm_push (.inl 1)), (gm_op2 gm_sub), (gm_putI 9 924), (gm_aload 0), gm_dup, (gm_getI 9 912), (gm_push (.inl 1)), (gm_op2 gm_add), (gm_putI 9 912), (gm_aload 0), (gm_vcall 9 113 1), (gm_goto 1)]]
def bpX9_takesE : Nat → Nat := fun b => ([0, 22, 43, 53, 96, 108, 110, 122, 162, 187, 195] : List Nat).getD b 0
set_option maxRecDepth 100000 in
theorem tX9_takesE {D : va_G} {sz : Nat} {ad : Nat → Nat} {cA : Nat → ClassId} {xs : Int → Int} {Ln : Int} {l : Launch} : gm_SB D sz ad cA xs Ln l gm_mt cX9_takesE "LongNoonModel" 4 false 2 bpX9_takesE 0 pX9_takesE :=
  ⟨gm_cn 1 (gm_m_aload _) (gm_s_aload_n dX9_takesE_0 rfl) (
    gm_cn 2 (gm_m_push _) (gm_s_iconst dX9_takesE_1) (
    gm_cn 5 (gm_m_putI _ _) (gf_putI_9_23 gw_238 dX9_takesE_2) (
    gm_cn 6 (gm_m_aload _) (gm_s_aload_n dX9_takesE_5 rfl) (
    gm_cn 7 (gm_m_push _) (gm_s_iconst dX9_takesE_6) (
    gm_cn 10 (gm_m_putI _ _) (gf_putI_9_24 gw_239 dX9_takesE_7) (
    gm_cn 11 (gm_m_aload _) (gm_s_aload_n dX9_takesE_10 rfl) (
    gm_cn 14 (gm_m_getR _ _) (gf_getR_9_18 gw_233 dX9_takesE_11) (
    gm_cn 15 (gm_m_iload _) (gm_s_iload_n dX9_takesE_14 rfl) (
    gm_cn 16 (gm_m_aload _) (gm_s_aload_n dX9_takesE_15 rfl) (
    gm_cn 19 (gm_m_getI _ _) (gf_getI_9_22 gw_237 dX9_takesE_16) (
    gm_cn 20 gm_m_iast (gm_s_iast dX9_takesE_19) (
    gm_cn 21 (gm_m_push _) (gm_s_iconst dX9_takesE_20) (
    gm_cn 22 (gm_m_istore _) (gm_s_istore_n dX9_takesE_21 rfl (by decide)) (
    gm_cn 0 (gm_m_goto _) (gm_s_fall (bpc := bpX9_takesE) (b := 1) rfl 0) (
    trivial))))))))))))))),
  gm_cn 23 (gm_m_aload _) (gm_s_aload_n dX9_takesE_22 rfl) (
    gm_cn 26 (gm_m_vcall _ _ _) (gcl_X9_next gw_283 dX9_takesE_23) (
    gm_cn 27 (gm_m_istore _) (gm_s_istore_n dX9_takesE_26 rfl (by decide)) (
    gm_cn 28 (gm_m_iload _) (gm_s_iload_n dX9_takesE_27 rfl) (
    gm_cn 31 (gm_m_ifeq _) (gm_s_ifeq (bpc := bpX9_takesE) (b := 6) dX9_takesE_28 rfl) (
    gm_cn 32 (gm_m_iload _) (gm_s_iload_n dX9_takesE_31 rfl) (
    gm_cn 34 (gm_m_push _) (gm_s_bipush dX9_takesE_32 rfl) (
    gm_cn 37 (gm_m_ceq _) (gm_s_ceq (bpc := bpX9_takesE) (b := 2) dX9_takesE_34 rfl) (
    gm_cn 38 (gm_m_iload _) (gm_s_iload_n dX9_takesE_37 rfl) (
    gm_cn 40 (gm_m_push _) (gm_s_bipush dX9_takesE_38 rfl) (
    gm_cn 43 (gm_m_cne _) (gm_s_cne (bpc := bpX9_takesE) (b := 4) dX9_takesE_40 rfl) (
    gm_cn 0 (gm_m_goto _) (gm_s_fall (bpc := bpX9_takesE) (b := 2) rfl 0) (
    trivial)))))))))))),
  gm_cn 44 (gm_m_aload _) (gm_s_aload_n dX9_takesE_43 rfl) (
    gm_cn 47 (gm_m_getI _ _) (gf_getI_9_24 gw_239 dX9_takesE_44) (
    gm_cn 48 (gm_m_push _) (gm_s_iconst dX9_takesE_47) (
    gm_cn 51 (gm_m_cne _) (gm_s_cne (bpc := bpX9_takesE) (b := 3) dX9_takesE_48 rfl) (
    gm_cn 52 (gm_m_push _) (gm_s_iconst dX9_takesE_51) (
    gm_cn 0 gm_m_zret (gm_s_zret dX9_takesE_52 rfl 0) (
    trivial)))))),
  gm_cn 54 (gm_m_aload _) (gm_s_aload_n dX9_takesE_53 rfl) (
    gm_cn 55 gm_m_dup (gm_s_dup dX9_takesE_54) (
    gm_cn 58 (gm_m_getI _ _) (gf_getI_9_24 gw_239 dX9_takesE_55) (
    gm_cn 59 (gm_m_push _) (gm_s_iconst dX9_takesE_58) (
    gm_cn 60 (gm_m_op2 _) (gm_s_iadd dX9_takesE_59) (
    gm_cn 63 (gm_m_putI _ _) (gf_putI_9_24 gw_239 dX9_takesE_60) (
    gm_cn 64 (gm_m_aload _) (gm_s_aload_n dX9_takesE_63 rfl) (
    gm_cn 67 (gm_m_getR _ _) (gf_getR_9_21 gw_236 dX9_takesE_64) (
    gm_cn 68 (gm_m_aload _) (gm_s_aload_n dX9_takesE_67 rfl) (
    gm_cn 71 (gm_m_getI _ _) (gf_getI_9_23 gw_238 dX9_takesE_68) (
    gm_cn 72 (gm_m_iload _) (gm_s_iload_n dX9_takesE_71 rfl) (
    gm_cn 73 gm_m_iast (gm_s_iast dX9_takesE_72) (
    gm_cn 74 (gm_m_aload _) (gm_s_aload_n dX9_takesE_73 rfl) (
    gm_cn 75 gm_m_dup (gm_s_dup dX9_takesE_74) (
    gm_cn 78 (gm_m_getI _ _) (gf_getI_9_23 gw_238 dX9_takesE_75) (
    gm_cn 79 (gm_m_push _) (gm_s_iconst dX9_takesE_78) (
    gm_cn 80 (gm_m_op2 _) (gm_s_iadd dX9_takesE_79) (
    gm_cn 83 (gm_m_putI _ _) (gf_putI_9_23 gw_238 dX9_takesE_80) (
    gm_cn 84 (gm_m_aload _) (gm_s_aload_n dX9_takesE_83 rfl) (
    gm_cn 85 gm_m_dup (gm_s_dup dX9_takesE_84) (
    gm_cn 88 (gm_m_getI _ _) (gf_getI_9_12 gw_227 dX9_takesE_85) (
    gm_cn 89 (gm_m_push _) (gm_s_iconst dX9_takesE_88) (
    gm_cn 90 (gm_m_op2 _) (gm_s_iadd dX9_takesE_89) (
    gm_cn 93 (gm_m_putI _ _) (gf_putI_9_12 gw_227 dX9_takesE_90) (
    gm_cn 0 (gm_m_goto _) (gm_s_goto (bpc := bpX9_takesE) (b := 1) dX9_takesE_93 rfl 0) (
    trivial))))))))))))))))))))))))),
  gm_cn 97 (gm_m_aload _) (gm_s_aload_n dX9_takesE_96 rfl) (
    gm_cn 100 (gm_m_vcall _ _ _) (gcl_X9_takesTest gw_290 dX9_takesE_97) (
    gm_cn 103 (gm_m_ifeq _) (gm_s_ifeq (bpc := bpX9_takesE) (b := 5) dX9_takesE_100 rfl) (
    gm_cn 104 (gm_m_push _) (gm_s_iconst dX9_takesE_103) (
    gm_cn 105 (gm_m_istore _) (gm_s_istore_n dX9_takesE_104 rfl (by decide)) (
    gm_cn 0 (gm_m_goto _) (gm_s_goto (bpc := bpX9_takesE) (b := 1) dX9_takesE_105 rfl 0) (
    trivial)))))),
  gm_cn 109 (gm_m_push _) (gm_s_iconst dX9_takesE_108) (
    gm_cn 0 gm_m_zret (gm_s_zret dX9_takesE_109 rfl 0) (
    trivial)),
  gm_cn 111 (gm_m_iload _) (gm_s_iload_n dX9_takesE_110 rfl) (
    gm_cn 113 (gm_m_push _) (gm_s_bipush dX9_takesE_111 rfl) (
    gm_cn 116 (gm_m_ceq _) (gm_s_ceq (bpc := bpX9_takesE) (b := 7) dX9_takesE_113 rfl) (
    gm_cn 117 (gm_m_iload _) (gm_s_iload_n dX9_takesE_116 rfl) (
    gm_cn 119 (gm_m_push _) (gm_s_bipush dX9_takesE_117 rfl) (
    gm_cn 122 (gm_m_cne _) (gm_s_cne (bpc := bpX9_takesE) (b := 8) dX9_takesE_119 rfl) (
    gm_cn 0 (gm_m_goto _) (gm_s_fall (bpc := bpX9_takesE) (b := 7) rfl 0) (
    trivial))))))),
  gm_cn 123 (gm_m_aload _) (gm_s_aload_n dX9_takesE_122 rfl) (
    gm_cn 124 (gm_m_iload _) (gm_s_iload_n dX9_takesE_123 rfl) (
    gm_cn 127 (gm_m_vcall _ _ _) (gcl_X9_settle gw_291 dX9_takesE_124) (
    gm_cn 128 (gm_m_aload _) (gm_s_aload_n dX9_takesE_127 rfl) (
    gm_cn 131 (gm_m_getR _ _) (gf_getR_9_21 gw_236 dX9_takesE_128) (
    gm_cn 132 (gm_m_aload _) (gm_s_aload_n dX9_takesE_131 rfl) (
    gm_cn 135 (gm_m_getI _ _) (gf_getI_9_23 gw_238 dX9_takesE_132) (
    gm_cn 136 (gm_m_iload _) (gm_s_iload_n dX9_takesE_135 rfl) (
    gm_cn 137 gm_m_iast (gm_s_iast dX9_takesE_136) (
    gm_cn 138 (gm_m_aload _) (gm_s_aload_n dX9_takesE_137 rfl) (
    gm_cn 139 gm_m_dup (gm_s_dup dX9_takesE_138) (
    gm_cn 142 (gm_m_getI _ _) (gf_getI_9_23 gw_238 dX9_takesE_139) (
    gm_cn 143 (gm_m_push _) (gm_s_iconst dX9_takesE_142) (
    gm_cn 144 (gm_m_op2 _) (gm_s_iadd dX9_takesE_143) (
    gm_cn 147 (gm_m_putI _ _) (gf_putI_9_23 gw_238 dX9_takesE_144) (
    gm_cn 148 (gm_m_push _) (gm_s_iconst dX9_takesE_147) (
    gm_cn 149 (gm_m_istore _) (gm_s_istore_n dX9_takesE_148 rfl (by decide)) (
    gm_cn 150 (gm_m_aload _) (gm_s_aload_n dX9_takesE_149 rfl) (
    gm_cn 151 gm_m_dup (gm_s_dup dX9_takesE_150) (
    gm_cn 154 (gm_m_getI _ _) (gf_getI_9_12 gw_227 dX9_takesE_151) (
    gm_cn 155 (gm_m_push _) (gm_s_iconst dX9_takesE_154) (
    gm_cn 156 (gm_m_op2 _) (gm_s_iadd dX9_takesE_155) (
    gm_cn 159 (gm_m_putI _ _) (gf_putI_9_12 gw_227 dX9_takesE_156) (
    gm_cn 0 (gm_m_goto _) (gm_s_goto (bpc := bpX9_takesE) (b := 1) dX9_takesE_159 rfl 0) (
    trivial)))))))))))))))))))))))),
  gm_cn 163 (gm_m_aload _) (gm_s_aload_n dX9_takesE_162 rfl) (
    gm_cn 165 (gm_m_push _) (gm_s_bipush dX9_takesE_163 rfl) (
    gm_cn 168 (gm_m_vcall _ _ _) (gcl_X9_settle gw_291 dX9_takesE_165) (
    gm_cn 169 (gm_m_aload _) (gm_s_aload_n dX9_takesE_168 rfl) (
    gm_cn 172 (gm_m_getR _ _) (gf_getR_9_19 gw_234 dX9_takesE_169) (
    gm_cn 173 (gm_m_iload _) (gm_s_iload_n dX9_takesE_172 rfl) (
    gm_cn 174 (gm_m_aload _) (gm_s_aload_n dX9_takesE_173 rfl) (
    gm_cn 177 (gm_m_getI _ _) (gf_getI_9_22 gw_237 dX9_takesE_174) (
    gm_cn 178 gm_m_iast (gm_s_iast dX9_takesE_177) (
    gm_cn 179 (gm_m_aload _) (gm_s_aload_n dX9_takesE_178 rfl) (
    gm_cn 182 (gm_m_getI _ _) (gf_getI_9_23 gw_238 dX9_takesE_179) (
    gm_cn 185 (gm_m_ifne _) (gm_s_ifne (bpc := bpX9_takesE) (b := 9) dX9_takesE_182 rfl) (
    gm_cn 186 (gm_m_push _) (gm_s_iconst dX9_takesE_185) (
    gm_cn 0 gm_m_zret (gm_s_zret dX9_takesE_186 rfl 0) (
    trivial)))))))))))))),
  gm_cn 188 (gm_m_iload _) (gm_s_iload_n dX9_takesE_187 rfl) (
    gm_cn 190 (gm_m_push _) (gm_s_bipush dX9_takesE_188 rfl) (
    gm_cn 193 (gm_m_ceq _) (gm_s_ceq (bpc := bpX9_takesE) (b := 10) dX9_takesE_190 rfl) (
    gm_cn 194 (gm_m_push _) (gm_s_iconst dX9_takesE_193) (
    gm_cn 0 gm_m_zret (gm_s_zret dX9_takesE_194 rfl 0) (
    trivial))))),
  gm_cn 196 (gm_m_aload _) (gm_s_aload_n dX9_takesE_195 rfl) (
    gm_cn 197 gm_m_dup (gm_s_dup dX9_takesE_196) (
    gm_cn 200 (gm_m_getI _ _) (gf_getI_9_23 gw_238 dX9_takesE_197) (
    gm_cn 201 (gm_m_push _) (gm_s_iconst dX9_takesE_200) (
    gm_cn 202 (gm_m_op2 _) (gm_s_isub dX9_takesE_201) (
    gm_cn 205 (gm_m_putI _ _) (gf_putI_9_23 gw_238 dX9_takesE_202) (
    gm_cn 206 (gm_m_aload _) (gm_s_aload_n dX9_takesE_205 rfl) (
    gm_cn 207 gm_m_dup (gm_s_dup dX9_takesE_206) (
    gm_cn 210 (gm_m_getI _ _) (gf_getI_9_24 gw_239 dX9_takesE_207) (
    gm_cn 211 (gm_m_push _) (gm_s_iconst dX9_takesE_210) (
    gm_cn 212 (gm_m_op2 _) (gm_s_isub dX9_takesE_211) (
    gm_cn 215 (gm_m_putI _ _) (gf_putI_9_24 gw_239 dX9_takesE_212) (
    gm_cn 216 (gm_m_aload _) (gm_s_aload_n dX9_takesE_215 rfl) (
    gm_cn 217 gm_m_dup (gm_s_dup dX9_takesE_216) (
    gm_cn 220 (gm_m_getI _ _) (gf_getI_9_12 gw_227 dX9_takesE_217) (
    gm_cn 221 (gm_m_push _) (gm_s_iconst dX9_takesE_220) (
    gm_cn 222 (gm_m_op2 _) (gm_s_iadd dX9_takesE_221) (
    gm_cn 225 (gm_m_putI _ _) (gf_putI_9_12 gw_227 dX9_takesE_222) (
    gm_cn 226 (gm_m_aload _) (gm_s_aload_n dX9_takesE_225 rfl) (
    gm_cn 229 (gm_m_vcall _ _ _) (gcl_X9_whole gw_289 dX9_takesE_226) (
    gm_cn 0 (gm_m_goto _) (gm_s_goto (bpc := bpX9_takesE) (b := 1) dX9_takesE_229 rfl 0) (
    trivial))))))))))))))))))))), trivial⟩
