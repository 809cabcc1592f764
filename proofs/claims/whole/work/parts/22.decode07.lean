theorem d_La_law_0 : decode b_La_law 0 = .ok (.new 8, 3) := by decide +kernel
theorem d_La_law_3 : decode b_La_law 3 = .ok (.dup, 1) := by decide +kernel
theorem d_La_law_4 : decode b_La_law 4 = .ok (.invokespecial 84, 3) := by decide +kernel
theorem d_La_law_7 : decode b_La_law 7 = .ok (.astore_n 1, 1) := by decide +kernel
theorem d_La_law_8 : decode b_La_law 8 = .ok (.new 85, 3) := by decide +kernel
theorem d_La_law_11 : decode b_La_law 11 = .ok (.dup, 1) := by decide +kernel
theorem d_La_law_12 : decode b_La_law 12 = .ok (.invokespecial 87, 3) := by decide +kernel
theorem d_La_law_15 : decode b_La_law 15 = .ok (.astore_n 2, 1) := by decide +kernel
theorem d_La_law_16 : decode b_La_law 16 = .ok (.iconst 1, 1) := by decide +kernel
theorem d_La_law_17 : decode b_La_law 17 = .ok (.newarray .long, 2) := by decide +kernel
theorem d_La_law_19 : decode b_La_law 19 = .ok (.astore_n 3, 1) := by decide +kernel
theorem d_La_law_20 : decode b_La_law 20 = .ok (.iconst 0, 1) := by decide +kernel
theorem d_La_law_21 : decode b_La_law 21 = .ok (.istore 4, 2) := by decide +kernel
theorem d_La_law_23 : decode b_La_law 23 = .ok (.iload 4, 2) := by decide +kernel
theorem d_La_law_25 : decode b_La_law 25 = .ok (.aload_n 0, 1) := by decide +kernel
theorem d_La_law_26 : decode b_La_law 26 = .ok (.arraylength, 1) := by decide +kernel
theorem d_La_law_27 : decode b_La_law 27 = .ok (.iconst 5, 1) := by decide +kernel
theorem d_La_law_28 : decode b_La_law 28 = .ok (.isub, 1) := by decide +kernel
theorem d_La_law_29 : decode b_La_law 29 = .ok (.if_icmp .gt 1625, 3) := by decide +kernel
theorem d_La_law_32 : decode b_La_law 32 = .ok (.aload_n 0, 1) := by decide +kernel
theorem d_La_law_33 : decode b_La_law 33 = .ok (.iload 4, 2) := by decide +kernel
theorem d_La_law_35 : decode b_La_law 35 = .ok (.iaload, 1) := by decide +kernel
theorem d_La_law_36 : decode b_La_law 36 = .ok (.bipush 31, 2) := by decide +kernel
theorem d_La_law_38 : decode b_La_law 38 = .ok (.iand, 1) := by decide +kernel
theorem d_La_law_39 : decode b_La_law 39 = .ok (.tableswitch 1609 0 21 #[101, 169, 237, 329, 397, 453, 509, 577, 657, 713, 781, 849, 893, 961, 1041, 1121, 1201, 1281, 1349, 1405, 1461, 1541], 101) := by decide +kernel
theorem d_La_law_140 : decode b_La_law 140 = .ok (.aload_n 1, 1) := by decide +kernel
theorem d_La_law_141 : decode b_La_law 141 = .ok (.aload_n 0, 1) := by decide +kernel
theorem d_La_law_142 : decode b_La_law 142 = .ok (.iload 4, 2) := by decide +kernel
theorem d_La_law_144 : decode b_La_law 144 = .ok (.iconst 1, 1) := by decide +kernel
theorem d_La_law_145 : decode b_La_law 145 = .ok (.iadd, 1) := by decide +kernel
theorem d_La_law_146 : decode b_La_law 146 = .ok (.iaload, 1) := by decide +kernel
theorem d_La_law_147 : decode b_La_law 147 = .ok (.aload_n 0, 1) := by decide +kernel
theorem d_La_law_148 : decode b_La_law 148 = .ok (.iload 4, 2) := by decide +kernel
theorem d_La_law_150 : decode b_La_law 150 = .ok (.iconst 2, 1) := by decide +kernel
theorem d_La_law_151 : decode b_La_law 151 = .ok (.iadd, 1) := by decide +kernel
theorem d_La_law_152 : decode b_La_law 152 = .ok (.iaload, 1) := by decide +kernel
theorem d_La_law_153 : decode b_La_law 153 = .ok (.aload_n 3, 1) := by decide +kernel
theorem d_La_law_154 : decode b_La_law 154 = .ok (.invokestatic 88, 3) := by decide +kernel
theorem d_La_law_157 : decode b_La_law 157 = .ok (.istore 5, 2) := by decide +kernel
theorem d_La_law_159 : decode b_La_law 159 = .ok (.aload_n 2, 1) := by decide +kernel
theorem d_La_law_160 : decode b_La_law 160 = .ok (.aload_n 0, 1) := by decide +kernel
theorem d_La_law_161 : decode b_La_law 161 = .ok (.iload 4, 2) := by decide +kernel
theorem d_La_law_163 : decode b_La_law 163 = .ok (.iconst 1, 1) := by decide +kernel
theorem d_La_law_164 : decode b_La_law 164 = .ok (.iadd, 1) := by decide +kernel
theorem d_La_law_165 : decode b_La_law 165 = .ok (.iaload, 1) := by decide +kernel
theorem d_La_law_166 : decode b_La_law 166 = .ok (.aload_n 0, 1) := by decide +kernel
theorem d_La_law_167 : decode b_La_law 167 = .ok (.iload 4, 2) := by decide +kernel
theorem d_La_law_169 : decode b_La_law 169 = .ok (.iconst 2, 1) := by decide +kernel
theorem d_La_law_170 : decode b_La_law 170 = .ok (.iadd, 1) := by decide +kernel
theorem d_La_law_171 : decode b_La_law 171 = .ok (.iaload, 1) := by decide +kernel
theorem d_La_law_172 : decode b_La_law 172 = .ok (.invokevirtual 93, 3) := by decide +kernel
theorem d_La_law_175 : decode b_La_law 175 = .ok (.istore 6, 2) := by decide +kernel
theorem d_La_law_177 : decode b_La_law 177 = .ok (.aload_n 2, 1) := by decide +kernel
theorem d_La_law_178 : decode b_La_law 178 = .ok (.invokevirtual 94, 3) := by decide +kernel
theorem d_La_law_181 : decode b_La_law 181 = .ok (.iload 5, 2) := by decide +kernel
theorem d_La_law_183 : decode b_La_law 183 = .ok (.if_icmp .eq 5, 3) := by decide +kernel
theorem d_La_law_186 : decode b_La_law 186 = .ok (.iconst 0, 1) := by decide +kernel
theorem d_La_law_187 : decode b_La_law 187 = .ok (.ireturn, 1) := by decide +kernel
theorem d_La_law_188 : decode b_La_law 188 = .ok (.iload 5, 2) := by decide +kernel
theorem d_La_law_190 : decode b_La_law 190 = .ok (.ifCond .ne 15, 3) := by decide +kernel
theorem d_La_law_193 : decode b_La_law 193 = .ok (.aload_n 3, 1) := by decide +kernel
theorem d_La_law_194 : decode b_La_law 194 = .ok (.iconst 0, 1) := by decide +kernel
theorem d_La_law_195 : decode b_La_law 195 = .ok (.laload, 1) := by decide +kernel
theorem d_La_law_196 : decode b_La_law 196 = .ok (.iload 6, 2) := by decide +kernel
theorem d_La_law_198 : decode b_La_law 198 = .ok (.i2l, 1) := by decide +kernel
theorem d_La_law_199 : decode b_La_law 199 = .ok (.lcmp, 1) := by decide +kernel
theorem d_La_law_200 : decode b_La_law 200 = .ok (.ifCond .eq 5, 3) := by decide +kernel
theorem d_La_law_203 : decode b_La_law 203 = .ok (.iconst 0, 1) := by decide +kernel
theorem d_La_law_204 : decode b_La_law 204 = .ok (.ireturn, 1) := by decide +kernel
theorem d_La_law_205 : decode b_La_law 205 = .ok (.goto 1443, 3) := by decide +kernel
theorem d_La_law_208 : decode b_La_law 208 = .ok (.aload_n 1, 1) := by decide +kernel
theorem d_La_law_209 : decode b_La_law 209 = .ok (.aload_n 0, 1) := by decide +kernel
theorem d_La_law_210 : decode b_La_law 210 = .ok (.iload 4, 2) := by decide +kernel
theorem d_La_law_212 : decode b_La_law 212 = .ok (.iconst 1, 1) := by decide +kernel
theorem d_La_law_213 : decode b_La_law 213 = .ok (.iadd, 1) := by decide +kernel
theorem d_La_law_214 : decode b_La_law 214 = .ok (.iaload, 1) := by decide +kernel
theorem d_La_law_215 : decode b_La_law 215 = .ok (.aload_n 0, 1) := by decide +kernel
theorem d_La_law_216 : decode b_La_law 216 = .ok (.iload 4, 2) := by decide +kernel
theorem d_La_law_218 : decode b_La_law 218 = .ok (.iconst 2, 1) := by decide +kernel
theorem d_La_law_219 : decode b_La_law 219 = .ok (.iadd, 1) := by decide +kernel
theorem d_La_law_220 : decode b_La_law 220 = .ok (.iaload, 1) := by decide +kernel
theorem d_La_law_221 : decode b_La_law 221 = .ok (.aload_n 3, 1) := by decide +kernel
theorem d_La_law_222 : decode b_La_law 222 = .ok (.invokestatic 97, 3) := by decide +kernel
theorem d_La_law_225 : decode b_La_law 225 = .ok (.istore 5, 2) := by decide +kernel
theorem d_La_law_227 : decode b_La_law 227 = .ok (.aload_n 2, 1) := by decide +kernel
theorem d_La_law_228 : decode b_La_law 228 = .ok (.aload_n 0, 1) := by decide +kernel
theorem d_La_law_229 : decode b_La_law 229 = .ok (.iload 4, 2) := by decide +kernel
theorem d_La_law_231 : decode b_La_law 231 = .ok (.iconst 1, 1) := by decide +kernel
theorem d_La_law_232 : decode b_La_law 232 = .ok (.iadd, 1) := by decide +kernel
theorem d_La_law_233 : decode b_La_law 233 = .ok (.iaload, 1) := by decide +kernel
theorem d_La_law_234 : decode b_La_law 234 = .ok (.aload_n 0, 1) := by decide +kernel
theorem d_La_law_235 : decode b_La_law 235 = .ok (.iload 4, 2) := by decide +kernel
theorem d_La_law_237 : decode b_La_law 237 = .ok (.iconst 2, 1) := by decide +kernel
theorem d_La_law_238 : decode b_La_law 238 = .ok (.iadd, 1) := by decide +kernel
theorem d_La_law_239 : decode b_La_law 239 = .ok (.iaload, 1) := by decide +kernel
theorem d_La_law_240 : decode b_La_law 240 = .ok (.invokevirtual 99, 3) := by decide +kernel
theorem d_La_law_243 : decode b_La_law 243 = .ok (.istore 6, 2) := by decide +kernel
theorem d_La_law_245 : decode b_La_law 245 = .ok (.aload_n 2, 1) := by decide +kernel
theorem d_La_law_246 : decode b_La_law 246 = .ok (.invokevirtual 94, 3) := by decide +kernel
theorem d_La_law_249 : decode b_La_law 249 = .ok (.iload 5, 2) := by decide +kernel
theorem d_La_law_251 : decode b_La_law 251 = .ok (.if_icmp .eq 5, 3) := by decide +kernel
theorem d_La_law_254 : decode b_La_law 254 = .ok (.iconst 0, 1) := by decide +kernel
theorem d_La_law_255 : decode b_La_law 255 = .ok (.ireturn, 1) := by decide +kernel
theorem d_La_law_256 : decode b_La_law 256 = .ok (.iload 5, 2) := by decide +kernel
theorem d_La_law_258 : decode b_La_law 258 = .ok (.ifCond .ne 15, 3) := by decide +kernel
theorem d_La_law_261 : decode b_La_law 261 = .ok (.aload_n 3, 1) := by decide +kernel
theorem d_La_law_262 : decode b_La_law 262 = .ok (.iconst 0, 1) := by decide +kernel
theorem d_La_law_263 : decode b_La_law 263 = .ok (.laload, 1) := by decide +kernel
theorem d_La_law_264 : decode b_La_law 264 = .ok (.iload 6, 2) := by decide +kernel
theorem d_La_law_266 : decode b_La_law 266 = .ok (.i2l, 1) := by decide +kernel
theorem d_La_law_267 : decode b_La_law 267 = .ok (.lcmp, 1) := by decide +kernel
theorem d_La_law_268 : decode b_La_law 268 = .ok (.ifCond .eq 5, 3) := by decide +kernel
theorem d_La_law_271 : decode b_La_law 271 = .ok (.iconst 0, 1) := by decide +kernel
theorem d_La_law_272 : decode b_La_law 272 = .ok (.ireturn, 1) := by decide +kernel
theorem d_La_law_273 : decode b_La_law 273 = .ok (.goto 1375, 3) := by decide +kernel
theorem d_La_law_276 : decode b_La_law 276 = .ok (.aload_n 1, 1) := by decide +kernel
theorem d_La_law_277 : decode b_La_law 277 = .ok (.aload_n 0, 1) := by decide +kernel
theorem d_La_law_278 : decode b_La_law 278 = .ok (.iload 4, 2) := by decide +kernel
theorem d_La_law_280 : decode b_La_law 280 = .ok (.iconst 1, 1) := by decide +kernel
theorem d_La_law_281 : decode b_La_law 281 = .ok (.iadd, 1) := by decide +kernel
theorem d_La_law_282 : decode b_La_law 282 = .ok (.iaload, 1) := by decide +kernel
theorem d_La_law_283 : decode b_La_law 283 = .ok (.aload_n 0, 1) := by decide +kernel
theorem d_La_law_284 : decode b_La_law 284 = .ok (.iload 4, 2) := by decide +kernel
theorem d_La_law_286 : decode b_La_law 286 = .ok (.iconst 2, 1) := by decide +kernel
theorem d_La_law_287 : decode b_La_law 287 = .ok (.iadd, 1) := by decide +kernel
theorem d_La_law_288 : decode b_La_law 288 = .ok (.iaload, 1) := by decide +kernel
theorem d_La_law_289 : decode b_La_law 289 = .ok (.aload_n 0, 1) := by decide +kernel
theorem d_La_law_290 : decode b_La_law 290 = .ok (.iload 4, 2) := by decide +kernel
theorem d_La_law_292 : decode b_La_law 292 = .ok (.iconst 3, 1) := by decide +kernel
theorem d_La_law_293 : decode b_La_law 293 = .ok (.iadd, 1) := by decide +kernel
theorem d_La_law_294 : decode b_La_law 294 = .ok (.iaload, 1) := by decide +kernel
theorem d_La_law_295 : decode b_La_law 295 = .ok (.aload_n 0, 1) := by decide +kernel
theorem d_La_law_296 : decode b_La_law 296 = .ok (.iload 4, 2) := by decide +kernel
theorem d_La_law_298 : decode b_La_law 298 = .ok (.iconst 4, 1) := by decide +kernel
theorem d_La_law_299 : decode b_La_law 299 = .ok (.iadd, 1) := by decide +kernel
theorem d_La_law_300 : decode b_La_law 300 = .ok (.iaload, 1) := by decide +kernel
theorem d_La_law_301 : decode b_La_law 301 = .ok (.aload_n 3, 1) := by decide +kernel
theorem d_La_law_302 : decode b_La_law 302 = .ok (.invokestatic 100, 3) := by decide +kernel
theorem d_La_law_305 : decode b_La_law 305 = .ok (.istore 5, 2) := by decide +kernel
theorem d_La_law_307 : decode b_La_law 307 = .ok (.aload_n 2, 1) := by decide +kernel
theorem d_La_law_308 : decode b_La_law 308 = .ok (.aload_n 0, 1) := by decide +kernel
theorem d_La_law_309 : decode b_La_law 309 = .ok (.iload 4, 2) := by decide +kernel
theorem d_La_law_311 : decode b_La_law 311 = .ok (.iconst 1, 1) := by decide +kernel
theorem d_La_law_312 : decode b_La_law 312 = .ok (.iadd, 1) := by decide +kernel
theorem d_La_law_313 : decode b_La_law 313 = .ok (.iaload, 1) := by decide +kernel
theorem d_La_law_314 : decode b_La_law 314 = .ok (.aload_n 0, 1) := by decide +kernel
theorem d_La_law_315 : decode b_La_law 315 = .ok (.iload 4, 2) := by decide +kernel
theorem d_La_law_317 : decode b_La_law 317 = .ok (.iconst 2, 1) := by decide +kernel
theorem d_La_law_318 : decode b_La_law 318 = .ok (.iadd, 1) := by decide +kernel
theorem d_La_law_319 : decode b_La_law 319 = .ok (.iaload, 1) := by decide +kernel
theorem d_La_law_320 : decode b_La_law 320 = .ok (.aload_n 0, 1) := by decide +kernel
theorem d_La_law_321 : decode b_La_law 321 = .ok (.iload 4, 2) := by decide +kernel
theorem d_La_law_323 : decode b_La_law 323 = .ok (.iconst 3, 1) := by decide +kernel
theorem d_La_law_324 : decode b_La_law 324 = .ok (.iadd, 1) := by decide +kernel
theorem d_La_law_325 : decode b_La_law 325 = .ok (.iaload, 1) := by decide +kernel
theorem d_La_law_326 : decode b_La_law 326 = .ok (.aload_n 0, 1) := by decide +kernel
theorem d_La_law_327 : decode b_La_law 327 = .ok (.iload 4, 2) := by decide +kernel
theorem d_La_law_329 : decode b_La_law 329 = .ok (.iconst 4, 1) := by decide +kernel
theorem d_La_law_330 : decode b_La_law 330 = .ok (.iadd, 1) := by decide +kernel
theorem d_La_law_331 : decode b_La_law 331 = .ok (.iaload, 1) := by decide +kernel
theorem d_La_law_332 : decode b_La_law 332 = .ok (.invokevirtual 103, 3) := by decide +kernel
theorem d_La_law_335 : decode b_La_law 335 = .ok (.istore 6, 2) := by decide +kernel
theorem d_La_law_337 : decode b_La_law 337 = .ok (.aload_n 2, 1) := by decide +kernel
theorem d_La_law_338 : decode b_La_law 338 = .ok (.invokevirtual 94, 3) := by decide +kernel
theorem d_La_law_341 : decode b_La_law 341 = .ok (.iload 5, 2) := by decide +kernel
theorem d_La_law_343 : decode b_La_law 343 = .ok (.if_icmp .eq 5, 3) := by decide +kernel
theorem d_La_law_346 : decode b_La_law 346 = .ok (.iconst 0, 1) := by decide +kernel
theorem d_La_law_347 : decode b_La_law 347 = .ok (.ireturn, 1) := by decide +kernel
theorem d_La_law_348 : decode b_La_law 348 = .ok (.iload 5, 2) := by decide +kernel
theorem d_La_law_350 : decode b_La_law 350 = .ok (.ifCond .ne 15, 3) := by decide +kernel
theorem d_La_law_353 : decode b_La_law 353 = .ok (.aload_n 3, 1) := by decide +kernel
theorem d_La_law_354 : decode b_La_law 354 = .ok (.iconst 0, 1) := by decide +kernel
theorem d_La_law_355 : decode b_La_law 355 = .ok (.laload, 1) := by decide +kernel
theorem d_La_law_356 : decode b_La_law 356 = .ok (.iload 6, 2) := by decide +kernel
theorem d_La_law_358 : decode b_La_law 358 = .ok (.i2l, 1) := by decide +kernel
theorem d_La_law_359 : decode b_La_law 359 = .ok (.lcmp, 1) := by decide +kernel
theorem d_La_law_360 : decode b_La_law 360 = .ok (.ifCond .eq 5, 3) := by decide +kernel
theorem d_La_law_363 : decode b_La_law 363 = .ok (.iconst 0, 1) := by decide +kernel
theorem d_La_law_364 : decode b_La_law 364 = .ok (.ireturn, 1) := by decide +kernel
theorem d_La_law_365 : decode b_La_law 365 = .ok (.goto 1283, 3) := by decide +kernel
theorem d_La_law_368 : decode b_La_law 368 = .ok (.aload_n 1, 1) := by decide +kernel
theorem d_La_law_369 : decode b_La_law 369 = .ok (.aload_n 0, 1) := by decide +kernel
theorem d_La_law_370 : decode b_La_law 370 = .ok (.iload 4, 2) := by decide +kernel
theorem d_La_law_372 : decode b_La_law 372 = .ok (.iconst 1, 1) := by decide +kernel
theorem d_La_law_373 : decode b_La_law 373 = .ok (.iadd, 1) := by decide +kernel
theorem d_La_law_374 : decode b_La_law 374 = .ok (.iaload, 1) := by decide +kernel
theorem d_La_law_375 : decode b_La_law 375 = .ok (.aload_n 0, 1) := by decide +kernel
theorem d_La_law_376 : decode b_La_law 376 = .ok (.iload 4, 2) := by decide +kernel
theorem d_La_law_378 : decode b_La_law 378 = .ok (.iconst 2, 1) := by decide +kernel
theorem d_La_law_379 : decode b_La_law 379 = .ok (.iadd, 1) := by decide +kernel
theorem d_La_law_380 : decode b_La_law 380 = .ok (.iaload, 1) := by decide +kernel
theorem d_La_law_381 : decode b_La_law 381 = .ok (.aload_n 3, 1) := by decide +kernel
theorem d_La_law_382 : decode b_La_law 382 = .ok (.invokestatic 104, 3) := by decide +kernel
theorem d_La_law_385 : decode b_La_law 385 = .ok (.istore 5, 2) := by decide +kernel
theorem d_La_law_387 : decode b_La_law 387 = .ok (.aload_n 2, 1) := by decide +kernel
theorem d_La_law_388 : decode b_La_law 388 = .ok (.aload_n 0, 1) := by decide +kernel
theorem d_La_law_389 : decode b_La_law 389 = .ok (.iload 4, 2) := by decide +kernel
theorem d_La_law_391 : decode b_La_law 391 = .ok (.iconst 1, 1) := by decide +kernel
theorem d_La_law_392 : decode b_La_law 392 = .ok (.iadd, 1) := by decide +kernel
theorem d_La_law_393 : decode b_La_law 393 = .ok (.iaload, 1) := by decide +kernel
theorem d_La_law_394 : decode b_La_law 394 = .ok (.aload_n 0, 1) := by decide +kernel
theorem d_La_law_395 : decode b_La_law 395 = .ok (.iload 4, 2) := by decide +kernel
theorem d_La_law_397 : decode b_La_law 397 = .ok (.iconst 2, 1) := by decide +kernel
theorem d_La_law_398 : decode b_La_law 398 = .ok (.iadd, 1) := by decide +kernel
theorem d_La_law_399 : decode b_La_law 399 = .ok (.iaload, 1) := by decide +kernel
theorem d_La_law_400 : decode b_La_law 400 = .ok (.invokevirtual 106, 3) := by decide +kernel
theorem d_La_law_403 : decode b_La_law 403 = .ok (.istore 6, 2) := by decide +kernel
theorem d_La_law_405 : decode b_La_law 405 = .ok (.aload_n 2, 1) := by decide +kernel
theorem d_La_law_406 : decode b_La_law 406 = .ok (.invokevirtual 94, 3) := by decide +kernel
theorem d_La_law_409 : decode b_La_law 409 = .ok (.iload 5, 2) := by decide +kernel
theorem d_La_law_411 : decode b_La_law 411 = .ok (.if_icmp .eq 5, 3) := by decide +kernel
theorem d_La_law_414 : decode b_La_law 414 = .ok (.iconst 0, 1) := by decide +kernel
theorem d_La_law_415 : decode b_La_law 415 = .ok (.ireturn, 1) := by decide +kernel
theorem d_La_law_416 : decode b_La_law 416 = .ok (.iload 5, 2) := by decide +kernel
theorem d_La_law_418 : decode b_La_law 418 = .ok (.ifCond .ne 15, 3) := by decide +kernel
theorem d_La_law_421 : decode b_La_law 421 = .ok (.aload_n 3, 1) := by decide +kernel
theorem d_La_law_422 : decode b_La_law 422 = .ok (.iconst 0, 1) := by decide +kernel
theorem d_La_law_423 : decode b_La_law 423 = .ok (.laload, 1) := by decide +kernel
theorem d_La_law_424 : decode b_La_law 424 = .ok (.iload 6, 2) := by decide +kernel
theorem d_La_law_426 : decode b_La_law 426 = .ok (.i2l, 1) := by decide +kernel
theorem d_La_law_427 : decode b_La_law 427 = .ok (.lcmp, 1) := by decide +kernel
theorem d_La_law_428 : decode b_La_law 428 = .ok (.ifCond .eq 5, 3) := by decide +kernel
theorem d_La_law_431 : decode b_La_law 431 = .ok (.iconst 0, 1) := by decide +kernel
theorem d_La_law_432 : decode b_La_law 432 = .ok (.ireturn, 1) := by decide +kernel
theorem d_La_law_433 : decode b_La_law 433 = .ok (.goto 1215, 3) := by decide +kernel
theorem d_La_law_436 : decode b_La_law 436 = .ok (.aload_n 1, 1) := by decide +kernel
theorem d_La_law_437 : decode b_La_law 437 = .ok (.aload_n 0, 1) := by decide +kernel
theorem d_La_law_438 : decode b_La_law 438 = .ok (.iload 4, 2) := by decide +kernel
theorem d_La_law_440 : decode b_La_law 440 = .ok (.iconst 1, 1) := by decide +kernel
theorem d_La_law_441 : decode b_La_law 441 = .ok (.iadd, 1) := by decide +kernel
theorem d_La_law_442 : decode b_La_law 442 = .ok (.iaload, 1) := by decide +kernel
theorem d_La_law_443 : decode b_La_law 443 = .ok (.aload_n 3, 1) := by decide +kernel
theorem d_La_law_444 : decode b_La_law 444 = .ok (.invokestatic 107, 3) := by decide +kernel
theorem d_La_law_447 : decode b_La_law 447 = .ok (.istore 5, 2) := by decide +kernel
theorem d_La_law_449 : decode b_La_law 449 = .ok (.aload_n 2, 1) := by decide +kernel
theorem d_La_law_450 : decode b_La_law 450 = .ok (.aload_n 0, 1) := by decide +kernel
theorem d_La_law_451 : decode b_La_law 451 = .ok (.iload 4, 2) := by decide +kernel
theorem d_La_law_453 : decode b_La_law 453 = .ok (.iconst 1, 1) := by decide +kernel
theorem d_La_law_454 : decode b_La_law 454 = .ok (.iadd, 1) := by decide +kernel
theorem d_La_law_455 : decode b_La_law 455 = .ok (.iaload, 1) := by decide +kernel
theorem d_La_law_456 : decode b_La_law 456 = .ok (.invokevirtual 110, 3) := by decide +kernel
theorem d_La_law_459 : decode b_La_law 459 = .ok (.istore 6, 2) := by decide +kernel
theorem d_La_law_461 : decode b_La_law 461 = .ok (.aload_n 2, 1) := by decide +kernel
theorem d_La_law_462 : decode b_La_law 462 = .ok (.invokevirtual 94, 3) := by decide +kernel
theorem d_La_law_465 : decode b_La_law 465 = .ok (.iload 5, 2) := by decide +kernel
theorem d_La_law_467 : decode b_La_law 467 = .ok (.if_icmp .eq 5, 3) := by decide +kernel
theorem d_La_law_470 : decode b_La_law 470 = .ok (.iconst 0, 1) := by decide +kernel
theorem d_La_law_471 : decode b_La_law 471 = .ok (.ireturn, 1) := by decide +kernel
theorem d_La_law_472 : decode b_La_law 472 = .ok (.iload 5, 2) := by decide +kernel
theorem d_La_law_474 : decode b_La_law 474 = .ok (.ifCond .ne 15, 3) := by decide +kernel
theorem d_La_law_477 : decode b_La_law 477 = .ok (.aload_n 3, 1) := by decide +kernel
theorem d_La_law_478 : decode b_La_law 478 = .ok (.iconst 0, 1) := by decide +kernel
theorem d_La_law_479 : decode b_La_law 479 = .ok (.laload, 1) := by decide +kernel
theorem d_La_law_480 : decode b_La_law 480 = .ok (.iload 6, 2) := by decide +kernel
theorem d_La_law_482 : decode b_La_law 482 = .ok (.i2l, 1) := by decide +kernel
theorem d_La_law_483 : decode b_La_law 483 = .ok (.lcmp, 1) := by decide +kernel
theorem d_La_law_484 : decode b_La_law 484 = .ok (.ifCond .eq 5, 3) := by decide +kernel
theorem d_La_law_487 : decode b_La_law 487 = .ok (.iconst 0, 1) := by decide +kernel
theorem d_La_law_488 : decode b_La_law 488 = .ok (.ireturn, 1) := by decide +kernel
theorem d_La_law_489 : decode b_La_law 489 = .ok (.goto 1159, 3) := by decide +kernel
theorem d_La_law_492 : decode b_La_law 492 = .ok (.aload_n 1, 1) := by decide +kernel
theorem d_La_law_493 : decode b_La_law 493 = .ok (.aload_n 0, 1) := by decide +kernel
theorem d_La_law_494 : decode b_La_law 494 = .ok (.iload 4, 2) := by decide +kernel
theorem d_La_law_496 : decode b_La_law 496 = .ok (.iconst 1, 1) := by decide +kernel
theorem d_La_law_497 : decode b_La_law 497 = .ok (.iadd, 1) := by decide +kernel
theorem d_La_law_498 : decode b_La_law 498 = .ok (.iaload, 1) := by decide +kernel
theorem d_La_law_499 : decode b_La_law 499 = .ok (.aload_n 3, 1) := by decide +kernel
theorem d_La_law_500 : decode b_La_law 500 = .ok (.invokestatic 111, 3) := by decide +kernel
theorem d_La_law_503 : decode b_La_law 503 = .ok (.istore 5, 2) := by decide +kernel
theorem d_La_law_505 : decode b_La_law 505 = .ok (.aload_n 2, 1) := by decide +kernel
theorem d_La_law_506 : decode b_La_law 506 = .ok (.aload_n 0, 1) := by decide +kernel
theorem d_La_law_507 : decode b_La_law 507 = .ok (.iload 4, 2) := by decide +kernel
theorem d_La_law_509 : decode b_La_law 509 = .ok (.iconst 1, 1) := by decide +kernel
theorem d_La_law_510 : decode b_La_law 510 = .ok (.iadd, 1) := by decide +kernel
theorem d_La_law_511 : decode b_La_law 511 = .ok (.iaload, 1) := by decide +kernel
theorem d_La_law_512 : decode b_La_law 512 = .ok (.invokevirtual 113, 3) := by decide +kernel
theorem d_La_law_515 : decode b_La_law 515 = .ok (.istore 6, 2) := by decide +kernel
theorem d_La_law_517 : decode b_La_law 517 = .ok (.aload_n 2, 1) := by decide +kernel
theorem d_La_law_518 : decode b_La_law 518 = .ok (.invokevirtual 94, 3) := by decide +kernel
theorem d_La_law_521 : decode b_La_law 521 = .ok (.iload 5, 2) := by decide +kernel
theorem d_La_law_523 : decode b_La_law 523 = .ok (.if_icmp .eq 5, 3) := by decide +kernel
theorem d_La_law_526 : decode b_La_law 526 = .ok (.iconst 0, 1) := by decide +kernel
theorem d_La_law_527 : decode b_La_law 527 = .ok (.ireturn, 1) := by decide +kernel
theorem d_La_law_528 : decode b_La_law 528 = .ok (.iload 5, 2) := by decide +kernel
theorem d_La_law_530 : decode b_La_law 530 = .ok (.ifCond .ne 15, 3) := by decide +kernel
theorem d_La_law_533 : decode b_La_law 533 = .ok (.aload_n 3, 1) := by decide +kernel
theorem d_La_law_534 : decode b_La_law 534 = .ok (.iconst 0, 1) := by decide +kernel
theorem d_La_law_535 : decode b_La_law 535 = .ok (.laload, 1) := by decide +kernel
theorem d_La_law_536 : decode b_La_law 536 = .ok (.iload 6, 2) := by decide +kernel
theorem d_La_law_538 : decode b_La_law 538 = .ok (.i2l, 1) := by decide +kernel
theorem d_La_law_539 : decode b_La_law 539 = .ok (.lcmp, 1) := by decide +kernel
theorem d_La_law_540 : decode b_La_law 540 = .ok (.ifCond .eq 5, 3) := by decide +kernel
theorem d_La_law_543 : decode b_La_law 543 = .ok (.iconst 0, 1) := by decide +kernel
theorem d_La_law_544 : decode b_La_law 544 = .ok (.ireturn, 1) := by decide +kernel
theorem d_La_law_545 : decode b_La_law 545 = .ok (.goto 1103, 3) := by decide +kernel
theorem d_La_law_548 : decode b_La_law 548 = .ok (.aload_n 1, 1) := by decide +kernel
theorem d_La_law_549 : decode b_La_law 549 = .ok (.aload_n 0, 1) := by decide +kernel
theorem d_La_law_550 : decode b_La_law 550 = .ok (.iload 4, 2) := by decide +kernel
theorem d_La_law_552 : decode b_La_law 552 = .ok (.iconst 1, 1) := by decide +kernel
theorem d_La_law_553 : decode b_La_law 553 = .ok (.iadd, 1) := by decide +kernel
theorem d_La_law_554 : decode b_La_law 554 = .ok (.iaload, 1) := by decide +kernel
theorem d_La_law_555 : decode b_La_law 555 = .ok (.aload_n 0, 1) := by decide +kernel
theorem d_La_law_556 : decode b_La_law 556 = .ok (.iload 4, 2) := by decide +kernel
theorem d_La_law_558 : decode b_La_law 558 = .ok (.iconst 2, 1) := by decide +kernel
theorem d_La_law_559 : decode b_La_law 559 = .ok (.iadd, 1) := by decide +kernel
theorem d_La_law_560 : decode b_La_law 560 = .ok (.iaload, 1) := by decide +kernel
theorem d_La_law_561 : decode b_La_law 561 = .ok (.aload_n 3, 1) := by decide +kernel
theorem d_La_law_562 : decode b_La_law 562 = .ok (.invokestatic 114, 3) := by decide +kernel
theorem d_La_law_565 : decode b_La_law 565 = .ok (.istore 5, 2) := by decide +kernel
theorem d_La_law_567 : decode b_La_law 567 = .ok (.aload_n 2, 1) := by decide +kernel
theorem d_La_law_568 : decode b_La_law 568 = .ok (.aload_n 0, 1) := by decide +kernel
theorem d_La_law_569 : decode b_La_law 569 = .ok (.iload 4, 2) := by decide +kernel
theorem d_La_law_571 : decode b_La_law 571 = .ok (.iconst 1, 1) := by decide +kernel
theorem d_La_law_572 : decode b_La_law 572 = .ok (.iadd, 1) := by decide +kernel
theorem d_La_law_573 : decode b_La_law 573 = .ok (.iaload, 1) := by decide +kernel
theorem d_La_law_574 : decode b_La_law 574 = .ok (.aload_n 0, 1) := by decide +kernel
theorem d_La_law_575 : decode b_La_law 575 = .ok (.iload 4, 2) := by decide +kernel
theorem d_La_law_577 : decode b_La_law 577 = .ok (.iconst 2, 1) := by decide +kernel
theorem d_La_law_578 : decode b_La_law 578 = .ok (.iadd, 1) := by decide +kernel
theorem d_La_law_579 : decode b_La_law 579 = .ok (.iaload, 1) := by decide +kernel
theorem d_La_law_580 : decode b_La_law 580 = .ok (.invokevirtual 116, 3) := by decide +kernel
theorem d_La_law_583 : decode b_La_law 583 = .ok (.istore 6, 2) := by decide +kernel
theorem d_La_law_585 : decode b_La_law 585 = .ok (.aload_n 2, 1) := by decide +kernel
theorem d_La_law_586 : decode b_La_law 586 = .ok (.invokevirtual 94, 3) := by decide +kernel
theorem d_La_law_589 : decode b_La_law 589 = .ok (.iload 5, 2) := by decide +kernel
theorem d_La_law_591 : decode b_La_law 591 = .ok (.if_icmp .eq 5, 3) := by decide +kernel
theorem d_La_law_594 : decode b_La_law 594 = .ok (.iconst 0, 1) := by decide +kernel
theorem d_La_law_595 : decode b_La_law 595 = .ok (.ireturn, 1) := by decide +kernel
theorem d_La_law_596 : decode b_La_law 596 = .ok (.iload 5, 2) := by decide +kernel
theorem d_La_law_598 : decode b_La_law 598 = .ok (.ifCond .ne 15, 3) := by decide +kernel
theorem d_La_law_601 : decode b_La_law 601 = .ok (.aload_n 3, 1) := by decide +kernel
theorem d_La_law_602 : decode b_La_law 602 = .ok (.iconst 0, 1) := by decide +kernel
theorem d_La_law_603 : decode b_La_law 603 = .ok (.laload, 1) := by decide +kernel
theorem d_La_law_604 : decode b_La_law 604 = .ok (.iload 6, 2) := by decide +kernel
theorem d_La_law_606 : decode b_La_law 606 = .ok (.i2l, 1) := by decide +kernel
theorem d_La_law_607 : decode b_La_law 607 = .ok (.lcmp, 1) := by decide +kernel
theorem d_La_law_608 : decode b_La_law 608 = .ok (.ifCond .eq 5, 3) := by decide +kernel
theorem d_La_law_611 : decode b_La_law 611 = .ok (.iconst 0, 1) := by decide +kernel
theorem d_La_law_612 : decode b_La_law 612 = .ok (.ireturn, 1) := by decide +kernel
theorem d_La_law_613 : decode b_La_law 613 = .ok (.goto 1035, 3) := by decide +kernel
theorem d_La_law_616 : decode b_La_law 616 = .ok (.aload_n 1, 1) := by decide +kernel
theorem d_La_law_617 : decode b_La_law 617 = .ok (.aload_n 0, 1) := by decide +kernel
theorem d_La_law_618 : decode b_La_law 618 = .ok (.iload 4, 2) := by decide +kernel
theorem d_La_law_620 : decode b_La_law 620 = .ok (.iconst 1, 1) := by decide +kernel
theorem d_La_law_621 : decode b_La_law 621 = .ok (.iadd, 1) := by decide +kernel
theorem d_La_law_622 : decode b_La_law 622 = .ok (.iaload, 1) := by decide +kernel
theorem d_La_law_623 : decode b_La_law 623 = .ok (.aload_n 0, 1) := by decide +kernel
theorem d_La_law_624 : decode b_La_law 624 = .ok (.iload 4, 2) := by decide +kernel
theorem d_La_law_626 : decode b_La_law 626 = .ok (.iconst 2, 1) := by decide +kernel
theorem d_La_law_627 : decode b_La_law 627 = .ok (.iadd, 1) := by decide +kernel
theorem d_La_law_628 : decode b_La_law 628 = .ok (.iaload, 1) := by decide +kernel
theorem d_La_law_629 : decode b_La_law 629 = .ok (.aload_n 0, 1) := by decide +kernel
theorem d_La_law_630 : decode b_La_law 630 = .ok (.iload 4, 2) := by decide +kernel
theorem d_La_law_632 : decode b_La_law 632 = .ok (.iconst 3, 1) := by decide +kernel
theorem d_La_law_633 : decode b_La_law 633 = .ok (.iadd, 1) := by decide +kernel
theorem d_La_law_634 : decode b_La_law 634 = .ok (.iaload, 1) := by decide +kernel
theorem d_La_law_635 : decode b_La_law 635 = .ok (.aload_n 3, 1) := by decide +kernel
theorem d_La_law_636 : decode b_La_law 636 = .ok (.invokestatic 117, 3) := by decide +kernel
theorem d_La_law_639 : decode b_La_law 639 = .ok (.istore 5, 2) := by decide +kernel
theorem d_La_law_641 : decode b_La_law 641 = .ok (.aload_n 2, 1) := by decide +kernel
theorem d_La_law_642 : decode b_La_law 642 = .ok (.aload_n 0, 1) := by decide +kernel
theorem d_La_law_643 : decode b_La_law 643 = .ok (.iload 4, 2) := by decide +kernel
theorem d_La_law_645 : decode b_La_law 645 = .ok (.iconst 1, 1) := by decide +kernel
theorem d_La_law_646 : decode b_La_law 646 = .ok (.iadd, 1) := by decide +kernel
theorem d_La_law_647 : decode b_La_law 647 = .ok (.iaload, 1) := by decide +kernel
theorem d_La_law_648 : decode b_La_law 648 = .ok (.aload_n 0, 1) := by decide +kernel
theorem d_La_law_649 : decode b_La_law 649 = .ok (.iload 4, 2) := by decide +kernel
theorem d_La_law_651 : decode b_La_law 651 = .ok (.iconst 2, 1) := by decide +kernel
theorem d_La_law_652 : decode b_La_law 652 = .ok (.iadd, 1) := by decide +kernel
theorem d_La_law_653 : decode b_La_law 653 = .ok (.iaload, 1) := by decide +kernel
theorem d_La_law_654 : decode b_La_law 654 = .ok (.aload_n 0, 1) := by decide +kernel
theorem d_La_law_655 : decode b_La_law 655 = .ok (.iload 4, 2) := by decide +kernel
theorem d_La_law_657 : decode b_La_law 657 = .ok (.iconst 3, 1) := by decide +kernel
theorem d_La_law_658 : decode b_La_law 658 = .ok (.iadd, 1) := by decide +kernel
theorem d_La_law_659 : decode b_La_law 659 = .ok (.iaload, 1) := by decide +kernel
theorem d_La_law_660 : decode b_La_law 660 = .ok (.invokevirtual 120, 3) := by decide +kernel
theorem d_La_law_663 : decode b_La_law 663 = .ok (.istore 6, 2) := by decide +kernel
theorem d_La_law_665 : decode b_La_law 665 = .ok (.aload_n 2, 1) := by decide +kernel
theorem d_La_law_666 : decode b_La_law 666 = .ok (.invokevirtual 94, 3) := by decide +kernel
theorem d_La_law_669 : decode b_La_law 669 = .ok (.iload 5, 2) := by decide +kernel
theorem d_La_law_671 : decode b_La_law 671 = .ok (.if_icmp .eq 5, 3) := by decide +kernel
theorem d_La_law_674 : decode b_La_law 674 = .ok (.iconst 0, 1) := by decide +kernel
theorem d_La_law_675 : decode b_La_law 675 = .ok (.ireturn, 1) := by decide +kernel
theorem d_La_law_676 : decode b_La_law 676 = .ok (.iload 5, 2) := by decide +kernel
theorem d_La_law_678 : decode b_La_law 678 = .ok (.ifCond .ne 15, 3) := by decide +kernel
theorem d_La_law_681 : decode b_La_law 681 = .ok (.aload_n 3, 1) := by decide +kernel
theorem d_La_law_682 : decode b_La_law 682 = .ok (.iconst 0, 1) := by decide +kernel
theorem d_La_law_683 : decode b_La_law 683 = .ok (.laload, 1) := by decide +kernel
theorem d_La_law_684 : decode b_La_law 684 = .ok (.iload 6, 2) := by decide +kernel
theorem d_La_law_686 : decode b_La_law 686 = .ok (.i2l, 1) := by decide +kernel
theorem d_La_law_687 : decode b_La_law 687 = .ok (.lcmp, 1) := by decide +kernel
theorem d_La_law_688 : decode b_La_law 688 = .ok (.ifCond .eq 5, 3) := by decide +kernel
theorem d_La_law_691 : decode b_La_law 691 = .ok (.iconst 0, 1) := by decide +kernel
theorem d_La_law_692 : decode b_La_law 692 = .ok (.ireturn, 1) := by decide +kernel
theorem d_La_law_693 : decode b_La_law 693 = .ok (.goto 955, 3) := by decide +kernel
theorem d_La_law_696 : decode b_La_law 696 = .ok (.aload_n 1, 1) := by decide +kernel
theorem d_La_law_697 : decode b_La_law 697 = .ok (.aload_n 0, 1) := by decide +kernel
theorem d_La_law_698 : decode b_La_law 698 = .ok (.iload 4, 2) := by decide +kernel
theorem d_La_law_700 : decode b_La_law 700 = .ok (.iconst 1, 1) := by decide +kernel
theorem d_La_law_701 : decode b_La_law 701 = .ok (.iadd, 1) := by decide +kernel
theorem d_La_law_702 : decode b_La_law 702 = .ok (.iaload, 1) := by decide +kernel
theorem d_La_law_703 : decode b_La_law 703 = .ok (.aload_n 3, 1) := by decide +kernel
theorem d_La_law_704 : decode b_La_law 704 = .ok (.invokestatic 121, 3) := by decide +kernel
theorem d_La_law_707 : decode b_La_law 707 = .ok (.istore 5, 2) := by decide +kernel
theorem d_La_law_709 : decode b_La_law 709 = .ok (.aload_n 2, 1) := by decide +kernel
theorem d_La_law_710 : decode b_La_law 710 = .ok (.aload_n 0, 1) := by decide +kernel
theorem d_La_law_711 : decode b_La_law 711 = .ok (.iload 4, 2) := by decide +kernel
theorem d_La_law_713 : decode b_La_law 713 = .ok (.iconst 1, 1) := by decide +kernel
theorem d_La_law_714 : decode b_La_law 714 = .ok (.iadd, 1) := by decide +kernel
theorem d_La_law_715 : decode b_La_law 715 = .ok (.iaload, 1) := by decide +kernel
theorem d_La_law_716 : decode b_La_law 716 = .ok (.invokevirtual 123, 3) := by decide +kernel
theorem d_La_law_719 : decode b_La_law 719 = .ok (.istore 6, 2) := by decide +kernel
theorem d_La_law_721 : decode b_La_law 721 = .ok (.aload_n 2, 1) := by decide +kernel
theorem d_La_law_722 : decode b_La_law 722 = .ok (.invokevirtual 94, 3) := by decide +kernel
theorem d_La_law_725 : decode b_La_law 725 = .ok (.iload 5, 2) := by decide +kernel
theorem d_La_law_727 : decode b_La_law 727 = .ok (.if_icmp .eq 5, 3) := by decide +kernel
theorem d_La_law_730 : decode b_La_law 730 = .ok (.iconst 0, 1) := by decide +kernel
theorem d_La_law_731 : decode b_La_law 731 = .ok (.ireturn, 1) := by decide +kernel
theorem d_La_law_732 : decode b_La_law 732 = .ok (.iload 5, 2) := by decide +kernel
theorem d_La_law_734 : decode b_La_law 734 = .ok (.ifCond .ne 15, 3) := by decide +kernel
theorem d_La_law_737 : decode b_La_law 737 = .ok (.aload_n 3, 1) := by decide +kernel
theorem d_La_law_738 : decode b_La_law 738 = .ok (.iconst 0, 1) := by decide +kernel
theorem d_La_law_739 : decode b_La_law 739 = .ok (.laload, 1) := by decide +kernel
theorem d_La_law_740 : decode b_La_law 740 = .ok (.iload 6, 2) := by decide +kernel
theorem d_La_law_742 : decode b_La_law 742 = .ok (.i2l, 1) := by decide +kernel
theorem d_La_law_743 : decode b_La_law 743 = .ok (.lcmp, 1) := by decide +kernel
theorem d_La_law_744 : decode b_La_law 744 = .ok (.ifCond .eq 5, 3) := by decide +kernel
theorem d_La_law_747 : decode b_La_law 747 = .ok (.iconst 0, 1) := by decide +kernel
theorem d_La_law_748 : decode b_La_law 748 = .ok (.ireturn, 1) := by decide +kernel
theorem d_La_law_749 : decode b_La_law 749 = .ok (.goto 899, 3) := by decide +kernel
theorem d_La_law_752 : decode b_La_law 752 = .ok (.aload_n 1, 1) := by decide +kernel
theorem d_La_law_753 : decode b_La_law 753 = .ok (.aload_n 0, 1) := by decide +kernel
theorem d_La_law_754 : decode b_La_law 754 = .ok (.iload 4, 2) := by decide +kernel
theorem d_La_law_756 : decode b_La_law 756 = .ok (.iconst 1, 1) := by decide +kernel
theorem d_La_law_757 : decode b_La_law 757 = .ok (.iadd, 1) := by decide +kernel
theorem d_La_law_758 : decode b_La_law 758 = .ok (.iaload, 1) := by decide +kernel
theorem d_La_law_759 : decode b_La_law 759 = .ok (.aload_n 0, 1) := by decide +kernel
theorem d_La_law_760 : decode b_La_law 760 = .ok (.iload 4, 2) := by decide +kernel
theorem d_La_law_762 : decode b_La_law 762 = .ok (.iconst 2, 1) := by decide +kernel
theorem d_La_law_763 : decode b_La_law 763 = .ok (.iadd, 1) := by decide +kernel
theorem d_La_law_764 : decode b_La_law 764 = .ok (.iaload, 1) := by decide +kernel
theorem d_La_law_765 : decode b_La_law 765 = .ok (.aload_n 3, 1) := by decide +kernel
theorem d_La_law_766 : decode b_La_law 766 = .ok (.invokestatic 124, 3) := by decide +kernel
theorem d_La_law_769 : decode b_La_law 769 = .ok (.istore 5, 2) := by decide +kernel
theorem d_La_law_771 : decode b_La_law 771 = .ok (.aload_n 2, 1) := by decide +kernel
theorem d_La_law_772 : decode b_La_law 772 = .ok (.aload_n 0, 1) := by decide +kernel
theorem d_La_law_773 : decode b_La_law 773 = .ok (.iload 4, 2) := by decide +kernel
theorem d_La_law_775 : decode b_La_law 775 = .ok (.iconst 1, 1) := by decide +kernel
theorem d_La_law_776 : decode b_La_law 776 = .ok (.iadd, 1) := by decide +kernel
theorem d_La_law_777 : decode b_La_law 777 = .ok (.iaload, 1) := by decide +kernel
theorem d_La_law_778 : decode b_La_law 778 = .ok (.aload_n 0, 1) := by decide +kernel
theorem d_La_law_779 : decode b_La_law 779 = .ok (.iload 4, 2) := by decide +kernel
theorem d_La_law_781 : decode b_La_law 781 = .ok (.iconst 2, 1) := by decide +kernel
theorem d_La_law_782 : decode b_La_law 782 = .ok (.iadd, 1) := by decide +kernel
theorem d_La_law_783 : decode b_La_law 783 = .ok (.iaload, 1) := by decide +kernel
theorem d_La_law_784 : decode b_La_law 784 = .ok (.invokevirtual 126, 3) := by decide +kernel
theorem d_La_law_787 : decode b_La_law 787 = .ok (.istore 6, 2) := by decide +kernel
theorem d_La_law_789 : decode b_La_law 789 = .ok (.aload_n 2, 1) := by decide +kernel
theorem d_La_law_790 : decode b_La_law 790 = .ok (.invokevirtual 94, 3) := by decide +kernel
theorem d_La_law_793 : decode b_La_law 793 = .ok (.iload 5, 2) := by decide +kernel
theorem d_La_law_795 : decode b_La_law 795 = .ok (.if_icmp .eq 5, 3) := by decide +kernel
theorem d_La_law_798 : decode b_La_law 798 = .ok (.iconst 0, 1) := by decide +kernel
theorem d_La_law_799 : decode b_La_law 799 = .ok (.ireturn, 1) := by decide +kernel
theorem d_La_law_800 : decode b_La_law 800 = .ok (.iload 5, 2) := by decide +kernel
theorem d_La_law_802 : decode b_La_law 802 = .ok (.ifCond .ne 15, 3) := by decide +kernel
theorem d_La_law_805 : decode b_La_law 805 = .ok (.aload_n 3, 1) := by decide +kernel
theorem d_La_law_806 : decode b_La_law 806 = .ok (.iconst 0, 1) := by decide +kernel
theorem d_La_law_807 : decode b_La_law 807 = .ok (.laload, 1) := by decide +kernel
theorem d_La_law_808 : decode b_La_law 808 = .ok (.iload 6, 2) := by decide +kernel
theorem d_La_law_810 : decode b_La_law 810 = .ok (.i2l, 1) := by decide +kernel
theorem d_La_law_811 : decode b_La_law 811 = .ok (.lcmp, 1) := by decide +kernel
theorem d_La_law_812 : decode b_La_law 812 = .ok (.ifCond .eq 5, 3) := by decide +kernel
theorem d_La_law_815 : decode b_La_law 815 = .ok (.iconst 0, 1) := by decide +kernel
theorem d_La_law_816 : decode b_La_law 816 = .ok (.ireturn, 1) := by decide +kernel
theorem d_La_law_817 : decode b_La_law 817 = .ok (.goto 831, 3) := by decide +kernel
theorem d_La_law_820 : decode b_La_law 820 = .ok (.aload_n 1, 1) := by decide +kernel
theorem d_La_law_821 : decode b_La_law 821 = .ok (.aload_n 0, 1) := by decide +kernel
theorem d_La_law_822 : decode b_La_law 822 = .ok (.iload 4, 2) := by decide +kernel
theorem d_La_law_824 : decode b_La_law 824 = .ok (.iconst 1, 1) := by decide +kernel
theorem d_La_law_825 : decode b_La_law 825 = .ok (.iadd, 1) := by decide +kernel
theorem d_La_law_826 : decode b_La_law 826 = .ok (.iaload, 1) := by decide +kernel
theorem d_La_law_827 : decode b_La_law 827 = .ok (.aload_n 0, 1) := by decide +kernel
theorem d_La_law_828 : decode b_La_law 828 = .ok (.iload 4, 2) := by decide +kernel
theorem d_La_law_830 : decode b_La_law 830 = .ok (.iconst 2, 1) := by decide +kernel
theorem d_La_law_831 : decode b_La_law 831 = .ok (.iadd, 1) := by decide +kernel
theorem d_La_law_832 : decode b_La_law 832 = .ok (.iaload, 1) := by decide +kernel
theorem d_La_law_833 : decode b_La_law 833 = .ok (.aload_n 3, 1) := by decide +kernel
theorem d_La_law_834 : decode b_La_law 834 = .ok (.invokestatic 127, 3) := by decide +kernel
theorem d_La_law_837 : decode b_La_law 837 = .ok (.istore 5, 2) := by decide +kernel
theorem d_La_law_839 : decode b_La_law 839 = .ok (.aload_n 2, 1) := by decide +kernel
theorem d_La_law_840 : decode b_La_law 840 = .ok (.aload_n 0, 1) := by decide +kernel
theorem d_La_law_841 : decode b_La_law 841 = .ok (.iload 4, 2) := by decide +kernel
theorem d_La_law_843 : decode b_La_law 843 = .ok (.iconst 1, 1) := by decide +kernel
theorem d_La_law_844 : decode b_La_law 844 = .ok (.iadd, 1) := by decide +kernel
theorem d_La_law_845 : decode b_La_law 845 = .ok (.iaload, 1) := by decide +kernel
theorem d_La_law_846 : decode b_La_law 846 = .ok (.aload_n 0, 1) := by decide +kernel
theorem d_La_law_847 : decode b_La_law 847 = .ok (.iload 4, 2) := by decide +kernel
theorem d_La_law_849 : decode b_La_law 849 = .ok (.iconst 2, 1) := by decide +kernel
theorem d_La_law_850 : decode b_La_law 850 = .ok (.iadd, 1) := by decide +kernel
theorem d_La_law_851 : decode b_La_law 851 = .ok (.iaload, 1) := by decide +kernel
theorem d_La_law_852 : decode b_La_law 852 = .ok (.invokevirtual 129, 3) := by decide +kernel
theorem d_La_law_855 : decode b_La_law 855 = .ok (.istore 6, 2) := by decide +kernel
theorem d_La_law_857 : decode b_La_law 857 = .ok (.aload_n 2, 1) := by decide +kernel
theorem d_La_law_858 : decode b_La_law 858 = .ok (.invokevirtual 94, 3) := by decide +kernel
theorem d_La_law_861 : decode b_La_law 861 = .ok (.iload 5, 2) := by decide +kernel
theorem d_La_law_863 : decode b_La_law 863 = .ok (.if_icmp .eq 5, 3) := by decide +kernel
theorem d_La_law_866 : decode b_La_law 866 = .ok (.iconst 0, 1) := by decide +kernel
theorem d_La_law_867 : decode b_La_law 867 = .ok (.ireturn, 1) := by decide +kernel
theorem d_La_law_868 : decode b_La_law 868 = .ok (.iload 5, 2) := by decide +kernel
theorem d_La_law_870 : decode b_La_law 870 = .ok (.ifCond .ne 15, 3) := by decide +kernel
theorem d_La_law_873 : decode b_La_law 873 = .ok (.aload_n 3, 1) := by decide +kernel
theorem d_La_law_874 : decode b_La_law 874 = .ok (.iconst 0, 1) := by decide +kernel
theorem d_La_law_875 : decode b_La_law 875 = .ok (.laload, 1) := by decide +kernel
theorem d_La_law_876 : decode b_La_law 876 = .ok (.iload 6, 2) := by decide +kernel
theorem d_La_law_878 : decode b_La_law 878 = .ok (.i2l, 1) := by decide +kernel
theorem d_La_law_879 : decode b_La_law 879 = .ok (.lcmp, 1) := by decide +kernel
theorem d_La_law_880 : decode b_La_law 880 = .ok (.ifCond .eq 5, 3) := by decide +kernel
theorem d_La_law_883 : decode b_La_law 883 = .ok (.iconst 0, 1) := by decide +kernel
theorem d_La_law_884 : decode b_La_law 884 = .ok (.ireturn, 1) := by decide +kernel
theorem d_La_law_885 : decode b_La_law 885 = .ok (.goto 763, 3) := by decide +kernel
theorem d_La_law_888 : decode b_La_law 888 = .ok (.aload_n 1, 1) := by decide +kernel
theorem d_La_law_889 : decode b_La_law 889 = .ok (.aload_n 3, 1) := by decide +kernel
theorem d_La_law_890 : decode b_La_law 890 = .ok (.invokestatic 130, 3) := by decide +kernel
theorem d_La_law_893 : decode b_La_law 893 = .ok (.istore 5, 2) := by decide +kernel
theorem d_La_law_895 : decode b_La_law 895 = .ok (.aload_n 2, 1) := by decide +kernel
theorem d_La_law_896 : decode b_La_law 896 = .ok (.invokevirtual 133, 3) := by decide +kernel
theorem d_La_law_899 : decode b_La_law 899 = .ok (.istore 6, 2) := by decide +kernel
theorem d_La_law_901 : decode b_La_law 901 = .ok (.aload_n 2, 1) := by decide +kernel
theorem d_La_law_902 : decode b_La_law 902 = .ok (.invokevirtual 94, 3) := by decide +kernel
theorem d_La_law_905 : decode b_La_law 905 = .ok (.iload 5, 2) := by decide +kernel
theorem d_La_law_907 : decode b_La_law 907 = .ok (.if_icmp .eq 5, 3) := by decide +kernel
theorem d_La_law_910 : decode b_La_law 910 = .ok (.iconst 0, 1) := by decide +kernel
theorem d_La_law_911 : decode b_La_law 911 = .ok (.ireturn, 1) := by decide +kernel
theorem d_La_law_912 : decode b_La_law 912 = .ok (.iload 5, 2) := by decide +kernel
theorem d_La_law_914 : decode b_La_law 914 = .ok (.ifCond .ne 15, 3) := by decide +kernel
theorem d_La_law_917 : decode b_La_law 917 = .ok (.aload_n 3, 1) := by decide +kernel
theorem d_La_law_918 : decode b_La_law 918 = .ok (.iconst 0, 1) := by decide +kernel
theorem d_La_law_919 : decode b_La_law 919 = .ok (.laload, 1) := by decide +kernel
theorem d_La_law_920 : decode b_La_law 920 = .ok (.iload 6, 2) := by decide +kernel
theorem d_La_law_922 : decode b_La_law 922 = .ok (.i2l, 1) := by decide +kernel
theorem d_La_law_923 : decode b_La_law 923 = .ok (.lcmp, 1) := by decide +kernel
theorem d_La_law_924 : decode b_La_law 924 = .ok (.ifCond .eq 5, 3) := by decide +kernel
theorem d_La_law_927 : decode b_La_law 927 = .ok (.iconst 0, 1) := by decide +kernel
theorem d_La_law_928 : decode b_La_law 928 = .ok (.ireturn, 1) := by decide +kernel
theorem d_La_law_929 : decode b_La_law 929 = .ok (.goto 719, 3) := by decide +kernel
theorem d_La_law_932 : decode b_La_law 932 = .ok (.aload_n 1, 1) := by decide +kernel
theorem d_La_law_933 : decode b_La_law 933 = .ok (.aload_n 0, 1) := by decide +kernel
theorem d_La_law_934 : decode b_La_law 934 = .ok (.iload 4, 2) := by decide +kernel
theorem d_La_law_936 : decode b_La_law 936 = .ok (.iconst 1, 1) := by decide +kernel
theorem d_La_law_937 : decode b_La_law 937 = .ok (.iadd, 1) := by decide +kernel
theorem d_La_law_938 : decode b_La_law 938 = .ok (.iaload, 1) := by decide +kernel
theorem d_La_law_939 : decode b_La_law 939 = .ok (.aload_n 0, 1) := by decide +kernel
theorem d_La_law_940 : decode b_La_law 940 = .ok (.iload 4, 2) := by decide +kernel
theorem d_La_law_942 : decode b_La_law 942 = .ok (.iconst 2, 1) := by decide +kernel
theorem d_La_law_943 : decode b_La_law 943 = .ok (.iadd, 1) := by decide +kernel
theorem d_La_law_944 : decode b_La_law 944 = .ok (.iaload, 1) := by decide +kernel
theorem d_La_law_945 : decode b_La_law 945 = .ok (.aload_n 3, 1) := by decide +kernel
theorem d_La_law_946 : decode b_La_law 946 = .ok (.invokestatic 134, 3) := by decide +kernel
theorem d_La_law_949 : decode b_La_law 949 = .ok (.istore 5, 2) := by decide +kernel
theorem d_La_law_951 : decode b_La_law 951 = .ok (.aload_n 2, 1) := by decide +kernel
theorem d_La_law_952 : decode b_La_law 952 = .ok (.aload_n 0, 1) := by decide +kernel
theorem d_La_law_953 : decode b_La_law 953 = .ok (.iload 4, 2) := by decide +kernel
theorem d_La_law_955 : decode b_La_law 955 = .ok (.iconst 1, 1) := by decide +kernel
theorem d_La_law_956 : decode b_La_law 956 = .ok (.iadd, 1) := by decide +kernel
theorem d_La_law_957 : decode b_La_law 957 = .ok (.iaload, 1) := by decide +kernel
theorem d_La_law_958 : decode b_La_law 958 = .ok (.aload_n 0, 1) := by decide +kernel
theorem d_La_law_959 : decode b_La_law 959 = .ok (.iload 4, 2) := by decide +kernel
theorem d_La_law_961 : decode b_La_law 961 = .ok (.iconst 2, 1) := by decide +kernel
theorem d_La_law_962 : decode b_La_law 962 = .ok (.iadd, 1) := by decide +kernel
theorem d_La_law_963 : decode b_La_law 963 = .ok (.iaload, 1) := by decide +kernel
theorem d_La_law_964 : decode b_La_law 964 = .ok (.invokevirtual 136, 3) := by decide +kernel
theorem d_La_law_967 : decode b_La_law 967 = .ok (.istore 6, 2) := by decide +kernel
theorem d_La_law_969 : decode b_La_law 969 = .ok (.aload_n 2, 1) := by decide +kernel
theorem d_La_law_970 : decode b_La_law 970 = .ok (.invokevirtual 94, 3) := by decide +kernel
theorem d_La_law_973 : decode b_La_law 973 = .ok (.iload 5, 2) := by decide +kernel
theorem d_La_law_975 : decode b_La_law 975 = .ok (.if_icmp .eq 5, 3) := by decide +kernel
theorem d_La_law_978 : decode b_La_law 978 = .ok (.iconst 0, 1) := by decide +kernel
theorem d_La_law_979 : decode b_La_law 979 = .ok (.ireturn, 1) := by decide +kernel
theorem d_La_law_980 : decode b_La_law 980 = .ok (.iload 5, 2) := by decide +kernel
theorem d_La_law_982 : decode b_La_law 982 = .ok (.ifCond .ne 15, 3) := by decide +kernel
theorem d_La_law_985 : decode b_La_law 985 = .ok (.aload_n 3, 1) := by decide +kernel
theorem d_La_law_986 : decode b_La_law 986 = .ok (.iconst 0, 1) := by decide +kernel
theorem d_La_law_987 : decode b_La_law 987 = .ok (.laload, 1) := by decide +kernel
theorem d_La_law_988 : decode b_La_law 988 = .ok (.iload 6, 2) := by decide +kernel
theorem d_La_law_990 : decode b_La_law 990 = .ok (.i2l, 1) := by decide +kernel
theorem d_La_law_991 : decode b_La_law 991 = .ok (.lcmp, 1) := by decide +kernel
theorem d_La_law_992 : decode b_La_law 992 = .ok (.ifCond .eq 5, 3) := by decide +kernel
theorem d_La_law_995 : decode b_La_law 995 = .ok (.iconst 0, 1) := by decide +kernel
theorem d_La_law_996 : decode b_La_law 996 = .ok (.ireturn, 1) := by decide +kernel
theorem d_La_law_997 : decode b_La_law 997 = .ok (.goto 651, 3) := by decide +kernel
theorem d_La_law_1000 : decode b_La_law 1000 = .ok (.aload_n 1, 1) := by decide +kernel
theorem d_La_law_1001 : decode b_La_law 1001 = .ok (.aload_n 0, 1) := by decide +kernel
theorem d_La_law_1002 : decode b_La_law 1002 = .ok (.iload 4, 2) := by decide +kernel
theorem d_La_law_1004 : decode b_La_law 1004 = .ok (.iconst 1, 1) := by decide +kernel
theorem d_La_law_1005 : decode b_La_law 1005 = .ok (.iadd, 1) := by decide +kernel
theorem d_La_law_1006 : decode b_La_law 1006 = .ok (.iaload, 1) := by decide +kernel
theorem d_La_law_1007 : decode b_La_law 1007 = .ok (.aload_n 0, 1) := by decide +kernel
theorem d_La_law_1008 : decode b_La_law 1008 = .ok (.iload 4, 2) := by decide +kernel
theorem d_La_law_1010 : decode b_La_law 1010 = .ok (.iconst 2, 1) := by decide +kernel
theorem d_La_law_1011 : decode b_La_law 1011 = .ok (.iadd, 1) := by decide +kernel
theorem d_La_law_1012 : decode b_La_law 1012 = .ok (.iaload, 1) := by decide +kernel
theorem d_La_law_1013 : decode b_La_law 1013 = .ok (.aload_n 0, 1) := by decide +kernel
theorem d_La_law_1014 : decode b_La_law 1014 = .ok (.iload 4, 2) := by decide +kernel
theorem d_La_law_1016 : decode b_La_law 1016 = .ok (.iconst 3, 1) := by decide +kernel
theorem d_La_law_1017 : decode b_La_law 1017 = .ok (.iadd, 1) := by decide +kernel
theorem d_La_law_1018 : decode b_La_law 1018 = .ok (.iaload, 1) := by decide +kernel
theorem d_La_law_1019 : decode b_La_law 1019 = .ok (.aload_n 3, 1) := by decide +kernel
theorem d_La_law_1020 : decode b_La_law 1020 = .ok (.invokestatic 137, 3) := by decide +kernel
theorem d_La_law_1023 : decode b_La_law 1023 = .ok (.istore 5, 2) := by decide +kernel
theorem d_La_law_1025 : decode b_La_law 1025 = .ok (.aload_n 2, 1) := by decide +kernel
theorem d_La_law_1026 : decode b_La_law 1026 = .ok (.aload_n 0, 1) := by decide +kernel
theorem d_La_law_1027 : decode b_La_law 1027 = .ok (.iload 4, 2) := by decide +kernel
theorem d_La_law_1029 : decode b_La_law 1029 = .ok (.iconst 1, 1) := by decide +kernel
theorem d_La_law_1030 : decode b_La_law 1030 = .ok (.iadd, 1) := by decide +kernel
theorem d_La_law_1031 : decode b_La_law 1031 = .ok (.iaload, 1) := by decide +kernel
theorem d_La_law_1032 : decode b_La_law 1032 = .ok (.aload_n 0, 1) := by decide +kernel
theorem d_La_law_1033 : decode b_La_law 1033 = .ok (.iload 4, 2) := by decide +kernel
theorem d_La_law_1035 : decode b_La_law 1035 = .ok (.iconst 2, 1) := by decide +kernel
theorem d_La_law_1036 : decode b_La_law 1036 = .ok (.iadd, 1) := by decide +kernel
theorem d_La_law_1037 : decode b_La_law 1037 = .ok (.iaload, 1) := by decide +kernel
theorem d_La_law_1038 : decode b_La_law 1038 = .ok (.aload_n 0, 1) := by decide +kernel
theorem d_La_law_1039 : decode b_La_law 1039 = .ok (.iload 4, 2) := by decide +kernel
theorem d_La_law_1041 : decode b_La_law 1041 = .ok (.iconst 3, 1) := by decide +kernel
theorem d_La_law_1042 : decode b_La_law 1042 = .ok (.iadd, 1) := by decide +kernel
theorem d_La_law_1043 : decode b_La_law 1043 = .ok (.iaload, 1) := by decide +kernel
theorem d_La_law_1044 : decode b_La_law 1044 = .ok (.invokevirtual 139, 3) := by decide +kernel
theorem d_La_law_1047 : decode b_La_law 1047 = .ok (.istore 6, 2) := by decide +kernel
theorem d_La_law_1049 : decode b_La_law 1049 = .ok (.aload_n 2, 1) := by decide +kernel
theorem d_La_law_1050 : decode b_La_law 1050 = .ok (.invokevirtual 94, 3) := by decide +kernel
theorem d_La_law_1053 : decode b_La_law 1053 = .ok (.iload 5, 2) := by decide +kernel
theorem d_La_law_1055 : decode b_La_law 1055 = .ok (.if_icmp .eq 5, 3) := by decide +kernel
theorem d_La_law_1058 : decode b_La_law 1058 = .ok (.iconst 0, 1) := by decide +kernel
theorem d_La_law_1059 : decode b_La_law 1059 = .ok (.ireturn, 1) := by decide +kernel
theorem d_La_law_1060 : decode b_La_law 1060 = .ok (.iload 5, 2) := by decide +kernel
theorem d_La_law_1062 : decode b_La_law 1062 = .ok (.ifCond .ne 15, 3) := by decide +kernel
theorem d_La_law_1065 : decode b_La_law 1065 = .ok (.aload_n 3, 1) := by decide +kernel
theorem d_La_law_1066 : decode b_La_law 1066 = .ok (.iconst 0, 1) := by decide +kernel
theorem d_La_law_1067 : decode b_La_law 1067 = .ok (.laload, 1) := by decide +kernel
theorem d_La_law_1068 : decode b_La_law 1068 = .ok (.iload 6, 2) := by decide +kernel
theorem d_La_law_1070 : decode b_La_law 1070 = .ok (.i2l, 1) := by decide +kernel
theorem d_La_law_1071 : decode b_La_law 1071 = .ok (.lcmp, 1) := by decide +kernel
theorem d_La_law_1072 : decode b_La_law 1072 = .ok (.ifCond .eq 5, 3) := by decide +kernel
theorem d_La_law_1075 : decode b_La_law 1075 = .ok (.iconst 0, 1) := by decide +kernel
theorem d_La_law_1076 : decode b_La_law 1076 = .ok (.ireturn, 1) := by decide +kernel
theorem d_La_law_1077 : decode b_La_law 1077 = .ok (.goto 571, 3) := by decide +kernel
theorem d_La_law_1080 : decode b_La_law 1080 = .ok (.aload_n 1, 1) := by decide +kernel
theorem d_La_law_1081 : decode b_La_law 1081 = .ok (.aload_n 0, 1) := by decide +kernel
theorem d_La_law_1082 : decode b_La_law 1082 = .ok (.iload 4, 2) := by decide +kernel
theorem d_La_law_1084 : decode b_La_law 1084 = .ok (.iconst 1, 1) := by decide +kernel
theorem d_La_law_1085 : decode b_La_law 1085 = .ok (.iadd, 1) := by decide +kernel
theorem d_La_law_1086 : decode b_La_law 1086 = .ok (.iaload, 1) := by decide +kernel
theorem d_La_law_1087 : decode b_La_law 1087 = .ok (.aload_n 0, 1) := by decide +kernel
theorem d_La_law_1088 : decode b_La_law 1088 = .ok (.iload 4, 2) := by decide +kernel
theorem d_La_law_1090 : decode b_La_law 1090 = .ok (.iconst 2, 1) := by decide +kernel
theorem d_La_law_1091 : decode b_La_law 1091 = .ok (.iadd, 1) := by decide +kernel
theorem d_La_law_1092 : decode b_La_law 1092 = .ok (.iaload, 1) := by decide +kernel
theorem d_La_law_1093 : decode b_La_law 1093 = .ok (.aload_n 0, 1) := by decide +kernel
theorem d_La_law_1094 : decode b_La_law 1094 = .ok (.iload 4, 2) := by decide +kernel
theorem d_La_law_1096 : decode b_La_law 1096 = .ok (.iconst 3, 1) := by decide +kernel
theorem d_La_law_1097 : decode b_La_law 1097 = .ok (.iadd, 1) := by decide +kernel
theorem d_La_law_1098 : decode b_La_law 1098 = .ok (.iaload, 1) := by decide +kernel
theorem d_La_law_1099 : decode b_La_law 1099 = .ok (.aload_n 3, 1) := by decide +kernel
theorem d_La_law_1100 : decode b_La_law 1100 = .ok (.invokestatic 140, 3) := by decide +kernel
theorem d_La_law_1103 : decode b_La_law 1103 = .ok (.istore 5, 2) := by decide +kernel
theorem d_La_law_1105 : decode b_La_law 1105 = .ok (.aload_n 2, 1) := by decide +kernel
theorem d_La_law_1106 : decode b_La_law 1106 = .ok (.aload_n 0, 1) := by decide +kernel
theorem d_La_law_1107 : decode b_La_law 1107 = .ok (.iload 4, 2) := by decide +kernel
theorem d_La_law_1109 : decode b_La_law 1109 = .ok (.iconst 1, 1) := by decide +kernel
theorem d_La_law_1110 : decode b_La_law 1110 = .ok (.iadd, 1) := by decide +kernel
theorem d_La_law_1111 : decode b_La_law 1111 = .ok (.iaload, 1) := by decide +kernel
theorem d_La_law_1112 : decode b_La_law 1112 = .ok (.aload_n 0, 1) := by decide +kernel
theorem d_La_law_1113 : decode b_La_law 1113 = .ok (.iload 4, 2) := by decide +kernel
theorem d_La_law_1115 : decode b_La_law 1115 = .ok (.iconst 2, 1) := by decide +kernel
theorem d_La_law_1116 : decode b_La_law 1116 = .ok (.iadd, 1) := by decide +kernel
theorem d_La_law_1117 : decode b_La_law 1117 = .ok (.iaload, 1) := by decide +kernel
theorem d_La_law_1118 : decode b_La_law 1118 = .ok (.aload_n 0, 1) := by decide +kernel
theorem d_La_law_1119 : decode b_La_law 1119 = .ok (.iload 4, 2) := by decide +kernel
theorem d_La_law_1121 : decode b_La_law 1121 = .ok (.iconst 3, 1) := by decide +kernel
theorem d_La_law_1122 : decode b_La_law 1122 = .ok (.iadd, 1) := by decide +kernel
theorem d_La_law_1123 : decode b_La_law 1123 = .ok (.iaload, 1) := by decide +kernel
theorem d_La_law_1124 : decode b_La_law 1124 = .ok (.invokevirtual 142, 3) := by decide +kernel
theorem d_La_law_1127 : decode b_La_law 1127 = .ok (.istore 6, 2) := by decide +kernel
theorem d_La_law_1129 : decode b_La_law 1129 = .ok (.aload_n 2, 1) := by decide +kernel
theorem d_La_law_1130 : decode b_La_law 1130 = .ok (.invokevirtual 94, 3) := by decide +kernel
theorem d_La_law_1133 : decode b_La_law 1133 = .ok (.iload 5, 2) := by decide +kernel
theorem d_La_law_1135 : decode b_La_law 1135 = .ok (.if_icmp .eq 5, 3) := by decide +kernel
theorem d_La_law_1138 : decode b_La_law 1138 = .ok (.iconst 0, 1) := by decide +kernel
theorem d_La_law_1139 : decode b_La_law 1139 = .ok (.ireturn, 1) := by decide +kernel
theorem d_La_law_1140 : decode b_La_law 1140 = .ok (.iload 5, 2) := by decide +kernel
theorem d_La_law_1142 : decode b_La_law 1142 = .ok (.ifCond .ne 15, 3) := by decide +kernel
theorem d_La_law_1145 : decode b_La_law 1145 = .ok (.aload_n 3, 1) := by decide +kernel
theorem d_La_law_1146 : decode b_La_law 1146 = .ok (.iconst 0, 1) := by decide +kernel
theorem d_La_law_1147 : decode b_La_law 1147 = .ok (.laload, 1) := by decide +kernel
theorem d_La_law_1148 : decode b_La_law 1148 = .ok (.iload 6, 2) := by decide +kernel
theorem d_La_law_1150 : decode b_La_law 1150 = .ok (.i2l, 1) := by decide +kernel
theorem d_La_law_1151 : decode b_La_law 1151 = .ok (.lcmp, 1) := by decide +kernel
theorem d_La_law_1152 : decode b_La_law 1152 = .ok (.ifCond .eq 5, 3) := by decide +kernel
theorem d_La_law_1155 : decode b_La_law 1155 = .ok (.iconst 0, 1) := by decide +kernel
theorem d_La_law_1156 : decode b_La_law 1156 = .ok (.ireturn, 1) := by decide +kernel
theorem d_La_law_1157 : decode b_La_law 1157 = .ok (.goto 491, 3) := by decide +kernel
theorem d_La_law_1160 : decode b_La_law 1160 = .ok (.aload_n 1, 1) := by decide +kernel
theorem d_La_law_1161 : decode b_La_law 1161 = .ok (.aload_n 0, 1) := by decide +kernel
theorem d_La_law_1162 : decode b_La_law 1162 = .ok (.iload 4, 2) := by decide +kernel
theorem d_La_law_1164 : decode b_La_law 1164 = .ok (.iconst 1, 1) := by decide +kernel
theorem d_La_law_1165 : decode b_La_law 1165 = .ok (.iadd, 1) := by decide +kernel
theorem d_La_law_1166 : decode b_La_law 1166 = .ok (.iaload, 1) := by decide +kernel
theorem d_La_law_1167 : decode b_La_law 1167 = .ok (.aload_n 0, 1) := by decide +kernel
theorem d_La_law_1168 : decode b_La_law 1168 = .ok (.iload 4, 2) := by decide +kernel
theorem d_La_law_1170 : decode b_La_law 1170 = .ok (.iconst 2, 1) := by decide +kernel
theorem d_La_law_1171 : decode b_La_law 1171 = .ok (.iadd, 1) := by decide +kernel
theorem d_La_law_1172 : decode b_La_law 1172 = .ok (.iaload, 1) := by decide +kernel
theorem d_La_law_1173 : decode b_La_law 1173 = .ok (.aload_n 0, 1) := by decide +kernel
theorem d_La_law_1174 : decode b_La_law 1174 = .ok (.iload 4, 2) := by decide +kernel
theorem d_La_law_1176 : decode b_La_law 1176 = .ok (.iconst 3, 1) := by decide +kernel
theorem d_La_law_1177 : decode b_La_law 1177 = .ok (.iadd, 1) := by decide +kernel
theorem d_La_law_1178 : decode b_La_law 1178 = .ok (.iaload, 1) := by decide +kernel
theorem d_La_law_1179 : decode b_La_law 1179 = .ok (.aload_n 3, 1) := by decide +kernel
theorem d_La_law_1180 : decode b_La_law 1180 = .ok (.invokestatic 143, 3) := by decide +kernel
theorem d_La_law_1183 : decode b_La_law 1183 = .ok (.istore 5, 2) := by decide +kernel
theorem d_La_law_1185 : decode b_La_law 1185 = .ok (.aload_n 2, 1) := by decide +kernel
theorem d_La_law_1186 : decode b_La_law 1186 = .ok (.aload_n 0, 1) := by decide +kernel
theorem d_La_law_1187 : decode b_La_law 1187 = .ok (.iload 4, 2) := by decide +kernel
theorem d_La_law_1189 : decode b_La_law 1189 = .ok (.iconst 1, 1) := by decide +kernel
theorem d_La_law_1190 : decode b_La_law 1190 = .ok (.iadd, 1) := by decide +kernel
theorem d_La_law_1191 : decode b_La_law 1191 = .ok (.iaload, 1) := by decide +kernel
theorem d_La_law_1192 : decode b_La_law 1192 = .ok (.aload_n 0, 1) := by decide +kernel
theorem d_La_law_1193 : decode b_La_law 1193 = .ok (.iload 4, 2) := by decide +kernel
theorem d_La_law_1195 : decode b_La_law 1195 = .ok (.iconst 2, 1) := by decide +kernel
theorem d_La_law_1196 : decode b_La_law 1196 = .ok (.iadd, 1) := by decide +kernel
theorem d_La_law_1197 : decode b_La_law 1197 = .ok (.iaload, 1) := by decide +kernel
theorem d_La_law_1198 : decode b_La_law 1198 = .ok (.aload_n 0, 1) := by decide +kernel
theorem d_La_law_1199 : decode b_La_law 1199 = .ok (.iload 4, 2) := by decide +kernel
theorem d_La_law_1201 : decode b_La_law 1201 = .ok (.iconst 3, 1) := by decide +kernel
theorem d_La_law_1202 : decode b_La_law 1202 = .ok (.iadd, 1) := by decide +kernel
theorem d_La_law_1203 : decode b_La_law 1203 = .ok (.iaload, 1) := by decide +kernel
theorem d_La_law_1204 : decode b_La_law 1204 = .ok (.invokevirtual 145, 3) := by decide +kernel
theorem d_La_law_1207 : decode b_La_law 1207 = .ok (.istore 6, 2) := by decide +kernel
theorem d_La_law_1209 : decode b_La_law 1209 = .ok (.aload_n 2, 1) := by decide +kernel
theorem d_La_law_1210 : decode b_La_law 1210 = .ok (.invokevirtual 94, 3) := by decide +kernel
theorem d_La_law_1213 : decode b_La_law 1213 = .ok (.iload 5, 2) := by decide +kernel
theorem d_La_law_1215 : decode b_La_law 1215 = .ok (.if_icmp .eq 5, 3) := by decide +kernel
theorem d_La_law_1218 : decode b_La_law 1218 = .ok (.iconst 0, 1) := by decide +kernel
theorem d_La_law_1219 : decode b_La_law 1219 = .ok (.ireturn, 1) := by decide +kernel
theorem d_La_law_1220 : decode b_La_law 1220 = .ok (.iload 5, 2) := by decide +kernel
theorem d_La_law_1222 : decode b_La_law 1222 = .ok (.ifCond .ne 15, 3) := by decide +kernel
theorem d_La_law_1225 : decode b_La_law 1225 = .ok (.aload_n 3, 1) := by decide +kernel
theorem d_La_law_1226 : decode b_La_law 1226 = .ok (.iconst 0, 1) := by decide +kernel
theorem d_La_law_1227 : decode b_La_law 1227 = .ok (.laload, 1) := by decide +kernel
theorem d_La_law_1228 : decode b_La_law 1228 = .ok (.iload 6, 2) := by decide +kernel
theorem d_La_law_1230 : decode b_La_law 1230 = .ok (.i2l, 1) := by decide +kernel
theorem d_La_law_1231 : decode b_La_law 1231 = .ok (.lcmp, 1) := by decide +kernel
theorem d_La_law_1232 : decode b_La_law 1232 = .ok (.ifCond .eq 5, 3) := by decide +kernel
theorem d_La_law_1235 : decode b_La_law 1235 = .ok (.iconst 0, 1) := by decide +kernel
theorem d_La_law_1236 : decode b_La_law 1236 = .ok (.ireturn, 1) := by decide +kernel
theorem d_La_law_1237 : decode b_La_law 1237 = .ok (.goto 411, 3) := by decide +kernel
theorem d_La_law_1240 : decode b_La_law 1240 = .ok (.aload_n 1, 1) := by decide +kernel
theorem d_La_law_1241 : decode b_La_law 1241 = .ok (.aload_n 0, 1) := by decide +kernel
theorem d_La_law_1242 : decode b_La_law 1242 = .ok (.iload 4, 2) := by decide +kernel
theorem d_La_law_1244 : decode b_La_law 1244 = .ok (.iconst 1, 1) := by decide +kernel
theorem d_La_law_1245 : decode b_La_law 1245 = .ok (.iadd, 1) := by decide +kernel
theorem d_La_law_1246 : decode b_La_law 1246 = .ok (.iaload, 1) := by decide +kernel
theorem d_La_law_1247 : decode b_La_law 1247 = .ok (.aload_n 0, 1) := by decide +kernel
theorem d_La_law_1248 : decode b_La_law 1248 = .ok (.iload 4, 2) := by decide +kernel
theorem d_La_law_1250 : decode b_La_law 1250 = .ok (.iconst 2, 1) := by decide +kernel
theorem d_La_law_1251 : decode b_La_law 1251 = .ok (.iadd, 1) := by decide +kernel
theorem d_La_law_1252 : decode b_La_law 1252 = .ok (.iaload, 1) := by decide +kernel
theorem d_La_law_1253 : decode b_La_law 1253 = .ok (.aload_n 0, 1) := by decide +kernel
theorem d_La_law_1254 : decode b_La_law 1254 = .ok (.iload 4, 2) := by decide +kernel
theorem d_La_law_1256 : decode b_La_law 1256 = .ok (.iconst 3, 1) := by decide +kernel
theorem d_La_law_1257 : decode b_La_law 1257 = .ok (.iadd, 1) := by decide +kernel
theorem d_La_law_1258 : decode b_La_law 1258 = .ok (.iaload, 1) := by decide +kernel
theorem d_La_law_1259 : decode b_La_law 1259 = .ok (.aload_n 3, 1) := by decide +kernel
theorem d_La_law_1260 : decode b_La_law 1260 = .ok (.invokestatic 146, 3) := by decide +kernel
theorem d_La_law_1263 : decode b_La_law 1263 = .ok (.istore 5, 2) := by decide +kernel
theorem d_La_law_1265 : decode b_La_law 1265 = .ok (.aload_n 2, 1) := by decide +kernel
theorem d_La_law_1266 : decode b_La_law 1266 = .ok (.aload_n 0, 1) := by decide +kernel
theorem d_La_law_1267 : decode b_La_law 1267 = .ok (.iload 4, 2) := by decide +kernel
theorem d_La_law_1269 : decode b_La_law 1269 = .ok (.iconst 1, 1) := by decide +kernel
theorem d_La_law_1270 : decode b_La_law 1270 = .ok (.iadd, 1) := by decide +kernel
theorem d_La_law_1271 : decode b_La_law 1271 = .ok (.iaload, 1) := by decide +kernel
theorem d_La_law_1272 : decode b_La_law 1272 = .ok (.aload_n 0, 1) := by decide +kernel
theorem d_La_law_1273 : decode b_La_law 1273 = .ok (.iload 4, 2) := by decide +kernel
theorem d_La_law_1275 : decode b_La_law 1275 = .ok (.iconst 2, 1) := by decide +kernel
theorem d_La_law_1276 : decode b_La_law 1276 = .ok (.iadd, 1) := by decide +kernel
theorem d_La_law_1277 : decode b_La_law 1277 = .ok (.iaload, 1) := by decide +kernel
theorem d_La_law_1278 : decode b_La_law 1278 = .ok (.aload_n 0, 1) := by decide +kernel
theorem d_La_law_1279 : decode b_La_law 1279 = .ok (.iload 4, 2) := by decide +kernel
theorem d_La_law_1281 : decode b_La_law 1281 = .ok (.iconst 3, 1) := by decide +kernel
theorem d_La_law_1282 : decode b_La_law 1282 = .ok (.iadd, 1) := by decide +kernel
theorem d_La_law_1283 : decode b_La_law 1283 = .ok (.iaload, 1) := by decide +kernel
theorem d_La_law_1284 : decode b_La_law 1284 = .ok (.invokevirtual 148, 3) := by decide +kernel
theorem d_La_law_1287 : decode b_La_law 1287 = .ok (.istore 6, 2) := by decide +kernel
theorem d_La_law_1289 : decode b_La_law 1289 = .ok (.aload_n 2, 1) := by decide +kernel
theorem d_La_law_1290 : decode b_La_law 1290 = .ok (.invokevirtual 94, 3) := by decide +kernel
theorem d_La_law_1293 : decode b_La_law 1293 = .ok (.iload 5, 2) := by decide +kernel
theorem d_La_law_1295 : decode b_La_law 1295 = .ok (.if_icmp .eq 5, 3) := by decide +kernel
theorem d_La_law_1298 : decode b_La_law 1298 = .ok (.iconst 0, 1) := by decide +kernel
theorem d_La_law_1299 : decode b_La_law 1299 = .ok (.ireturn, 1) := by decide +kernel
theorem d_La_law_1300 : decode b_La_law 1300 = .ok (.iload 5, 2) := by decide +kernel
theorem d_La_law_1302 : decode b_La_law 1302 = .ok (.ifCond .ne 15, 3) := by decide +kernel
theorem d_La_law_1305 : decode b_La_law 1305 = .ok (.aload_n 3, 1) := by decide +kernel
theorem d_La_law_1306 : decode b_La_law 1306 = .ok (.iconst 0, 1) := by decide +kernel
theorem d_La_law_1307 : decode b_La_law 1307 = .ok (.laload, 1) := by decide +kernel
theorem d_La_law_1308 : decode b_La_law 1308 = .ok (.iload 6, 2) := by decide +kernel
theorem d_La_law_1310 : decode b_La_law 1310 = .ok (.i2l, 1) := by decide +kernel
theorem d_La_law_1311 : decode b_La_law 1311 = .ok (.lcmp, 1) := by decide +kernel
theorem d_La_law_1312 : decode b_La_law 1312 = .ok (.ifCond .eq 5, 3) := by decide +kernel
theorem d_La_law_1315 : decode b_La_law 1315 = .ok (.iconst 0, 1) := by decide +kernel
theorem d_La_law_1316 : decode b_La_law 1316 = .ok (.ireturn, 1) := by decide +kernel
theorem d_La_law_1317 : decode b_La_law 1317 = .ok (.goto 331, 3) := by decide +kernel
theorem d_La_law_1320 : decode b_La_law 1320 = .ok (.aload_n 1, 1) := by decide +kernel
theorem d_La_law_1321 : decode b_La_law 1321 = .ok (.aload_n 0, 1) := by decide +kernel
theorem d_La_law_1322 : decode b_La_law 1322 = .ok (.iload 4, 2) := by decide +kernel
theorem d_La_law_1324 : decode b_La_law 1324 = .ok (.iconst 1, 1) := by decide +kernel
theorem d_La_law_1325 : decode b_La_law 1325 = .ok (.iadd, 1) := by decide +kernel
theorem d_La_law_1326 : decode b_La_law 1326 = .ok (.iaload, 1) := by decide +kernel
theorem d_La_law_1327 : decode b_La_law 1327 = .ok (.aload_n 0, 1) := by decide +kernel
theorem d_La_law_1328 : decode b_La_law 1328 = .ok (.iload 4, 2) := by decide +kernel
theorem d_La_law_1330 : decode b_La_law 1330 = .ok (.iconst 2, 1) := by decide +kernel
theorem d_La_law_1331 : decode b_La_law 1331 = .ok (.iadd, 1) := by decide +kernel
theorem d_La_law_1332 : decode b_La_law 1332 = .ok (.iaload, 1) := by decide +kernel
theorem d_La_law_1333 : decode b_La_law 1333 = .ok (.aload_n 3, 1) := by decide +kernel
theorem d_La_law_1334 : decode b_La_law 1334 = .ok (.invokestatic 149, 3) := by decide +kernel
theorem d_La_law_1337 : decode b_La_law 1337 = .ok (.istore 5, 2) := by decide +kernel
theorem d_La_law_1339 : decode b_La_law 1339 = .ok (.aload_n 2, 1) := by decide +kernel
theorem d_La_law_1340 : decode b_La_law 1340 = .ok (.aload_n 0, 1) := by decide +kernel
theorem d_La_law_1341 : decode b_La_law 1341 = .ok (.iload 4, 2) := by decide +kernel
theorem d_La_law_1343 : decode b_La_law 1343 = .ok (.iconst 1, 1) := by decide +kernel
theorem d_La_law_1344 : decode b_La_law 1344 = .ok (.iadd, 1) := by decide +kernel
theorem d_La_law_1345 : decode b_La_law 1345 = .ok (.iaload, 1) := by decide +kernel
theorem d_La_law_1346 : decode b_La_law 1346 = .ok (.aload_n 0, 1) := by decide +kernel
theorem d_La_law_1347 : decode b_La_law 1347 = .ok (.iload 4, 2) := by decide +kernel
theorem d_La_law_1349 : decode b_La_law 1349 = .ok (.iconst 2, 1) := by decide +kernel
theorem d_La_law_1350 : decode b_La_law 1350 = .ok (.iadd, 1) := by decide +kernel
theorem d_La_law_1351 : decode b_La_law 1351 = .ok (.iaload, 1) := by decide +kernel
theorem d_La_law_1352 : decode b_La_law 1352 = .ok (.invokevirtual 151, 3) := by decide +kernel
theorem d_La_law_1355 : decode b_La_law 1355 = .ok (.istore 6, 2) := by decide +kernel
theorem d_La_law_1357 : decode b_La_law 1357 = .ok (.aload_n 2, 1) := by decide +kernel
theorem d_La_law_1358 : decode b_La_law 1358 = .ok (.invokevirtual 94, 3) := by decide +kernel
theorem d_La_law_1361 : decode b_La_law 1361 = .ok (.iload 5, 2) := by decide +kernel
theorem d_La_law_1363 : decode b_La_law 1363 = .ok (.if_icmp .eq 5, 3) := by decide +kernel
theorem d_La_law_1366 : decode b_La_law 1366 = .ok (.iconst 0, 1) := by decide +kernel
theorem d_La_law_1367 : decode b_La_law 1367 = .ok (.ireturn, 1) := by decide +kernel
theorem d_La_law_1368 : decode b_La_law 1368 = .ok (.iload 5, 2) := by decide +kernel
theorem d_La_law_1370 : decode b_La_law 1370 = .ok (.ifCond .ne 15, 3) := by decide +kernel
theorem d_La_law_1373 : decode b_La_law 1373 = .ok (.aload_n 3, 1) := by decide +kernel
theorem d_La_law_1374 : decode b_La_law 1374 = .ok (.iconst 0, 1) := by decide +kernel
theorem d_La_law_1375 : decode b_La_law 1375 = .ok (.laload, 1) := by decide +kernel
theorem d_La_law_1376 : decode b_La_law 1376 = .ok (.iload 6, 2) := by decide +kernel
theorem d_La_law_1378 : decode b_La_law 1378 = .ok (.i2l, 1) := by decide +kernel
theorem d_La_law_1379 : decode b_La_law 1379 = .ok (.lcmp, 1) := by decide +kernel
theorem d_La_law_1380 : decode b_La_law 1380 = .ok (.ifCond .eq 5, 3) := by decide +kernel
theorem d_La_law_1383 : decode b_La_law 1383 = .ok (.iconst 0, 1) := by decide +kernel
theorem d_La_law_1384 : decode b_La_law 1384 = .ok (.ireturn, 1) := by decide +kernel
theorem d_La_law_1385 : decode b_La_law 1385 = .ok (.goto 263, 3) := by decide +kernel
theorem d_La_law_1388 : decode b_La_law 1388 = .ok (.aload_n 1, 1) := by decide +kernel
theorem d_La_law_1389 : decode b_La_law 1389 = .ok (.aload_n 0, 1) := by decide +kernel
theorem d_La_law_1390 : decode b_La_law 1390 = .ok (.iload 4, 2) := by decide +kernel
theorem d_La_law_1392 : decode b_La_law 1392 = .ok (.iconst 1, 1) := by decide +kernel
theorem d_La_law_1393 : decode b_La_law 1393 = .ok (.iadd, 1) := by decide +kernel
theorem d_La_law_1394 : decode b_La_law 1394 = .ok (.iaload, 1) := by decide +kernel
theorem d_La_law_1395 : decode b_La_law 1395 = .ok (.aload_n 3, 1) := by decide +kernel
theorem d_La_law_1396 : decode b_La_law 1396 = .ok (.invokestatic 152, 3) := by decide +kernel
theorem d_La_law_1399 : decode b_La_law 1399 = .ok (.istore 5, 2) := by decide +kernel
theorem d_La_law_1401 : decode b_La_law 1401 = .ok (.aload_n 2, 1) := by decide +kernel
theorem d_La_law_1402 : decode b_La_law 1402 = .ok (.aload_n 0, 1) := by decide +kernel
theorem d_La_law_1403 : decode b_La_law 1403 = .ok (.iload 4, 2) := by decide +kernel
theorem d_La_law_1405 : decode b_La_law 1405 = .ok (.iconst 1, 1) := by decide +kernel
theorem d_La_law_1406 : decode b_La_law 1406 = .ok (.iadd, 1) := by decide +kernel
theorem d_La_law_1407 : decode b_La_law 1407 = .ok (.iaload, 1) := by decide +kernel
theorem d_La_law_1408 : decode b_La_law 1408 = .ok (.invokevirtual 154, 3) := by decide +kernel
theorem d_La_law_1411 : decode b_La_law 1411 = .ok (.istore 6, 2) := by decide +kernel
theorem d_La_law_1413 : decode b_La_law 1413 = .ok (.aload_n 2, 1) := by decide +kernel
theorem d_La_law_1414 : decode b_La_law 1414 = .ok (.invokevirtual 94, 3) := by decide +kernel
theorem d_La_law_1417 : decode b_La_law 1417 = .ok (.iload 5, 2) := by decide +kernel
theorem d_La_law_1419 : decode b_La_law 1419 = .ok (.if_icmp .eq 5, 3) := by decide +kernel
theorem d_La_law_1422 : decode b_La_law 1422 = .ok (.iconst 0, 1) := by decide +kernel
theorem d_La_law_1423 : decode b_La_law 1423 = .ok (.ireturn, 1) := by decide +kernel
theorem d_La_law_1424 : decode b_La_law 1424 = .ok (.iload 5, 2) := by decide +kernel
theorem d_La_law_1426 : decode b_La_law 1426 = .ok (.ifCond .ne 15, 3) := by decide +kernel
theorem d_La_law_1429 : decode b_La_law 1429 = .ok (.aload_n 3, 1) := by decide +kernel
theorem d_La_law_1430 : decode b_La_law 1430 = .ok (.iconst 0, 1) := by decide +kernel
theorem d_La_law_1431 : decode b_La_law 1431 = .ok (.laload, 1) := by decide +kernel
theorem d_La_law_1432 : decode b_La_law 1432 = .ok (.iload 6, 2) := by decide +kernel
theorem d_La_law_1434 : decode b_La_law 1434 = .ok (.i2l, 1) := by decide +kernel
theorem d_La_law_1435 : decode b_La_law 1435 = .ok (.lcmp, 1) := by decide +kernel
theorem d_La_law_1436 : decode b_La_law 1436 = .ok (.ifCond .eq 5, 3) := by decide +kernel
theorem d_La_law_1439 : decode b_La_law 1439 = .ok (.iconst 0, 1) := by decide +kernel
theorem d_La_law_1440 : decode b_La_law 1440 = .ok (.ireturn, 1) := by decide +kernel
theorem d_La_law_1441 : decode b_La_law 1441 = .ok (.goto 207, 3) := by decide +kernel
theorem d_La_law_1444 : decode b_La_law 1444 = .ok (.aload_n 1, 1) := by decide +kernel
theorem d_La_law_1445 : decode b_La_law 1445 = .ok (.aload_n 0, 1) := by decide +kernel
theorem d_La_law_1446 : decode b_La_law 1446 = .ok (.iload 4, 2) := by decide +kernel
theorem d_La_law_1448 : decode b_La_law 1448 = .ok (.iconst 1, 1) := by decide +kernel
theorem d_La_law_1449 : decode b_La_law 1449 = .ok (.iadd, 1) := by decide +kernel
theorem d_La_law_1450 : decode b_La_law 1450 = .ok (.iaload, 1) := by decide +kernel
theorem d_La_law_1451 : decode b_La_law 1451 = .ok (.aload_n 3, 1) := by decide +kernel
theorem d_La_law_1452 : decode b_La_law 1452 = .ok (.invokestatic 155, 3) := by decide +kernel
theorem d_La_law_1455 : decode b_La_law 1455 = .ok (.istore 5, 2) := by decide +kernel
theorem d_La_law_1457 : decode b_La_law 1457 = .ok (.aload_n 2, 1) := by decide +kernel
theorem d_La_law_1458 : decode b_La_law 1458 = .ok (.aload_n 0, 1) := by decide +kernel
theorem d_La_law_1459 : decode b_La_law 1459 = .ok (.iload 4, 2) := by decide +kernel
theorem d_La_law_1461 : decode b_La_law 1461 = .ok (.iconst 1, 1) := by decide +kernel
theorem d_La_law_1462 : decode b_La_law 1462 = .ok (.iadd, 1) := by decide +kernel
theorem d_La_law_1463 : decode b_La_law 1463 = .ok (.iaload, 1) := by decide +kernel
theorem d_La_law_1464 : decode b_La_law 1464 = .ok (.invokevirtual 157, 3) := by decide +kernel
theorem d_La_law_1467 : decode b_La_law 1467 = .ok (.istore 6, 2) := by decide +kernel
theorem d_La_law_1469 : decode b_La_law 1469 = .ok (.aload_n 2, 1) := by decide +kernel
theorem d_La_law_1470 : decode b_La_law 1470 = .ok (.invokevirtual 94, 3) := by decide +kernel
theorem d_La_law_1473 : decode b_La_law 1473 = .ok (.iload 5, 2) := by decide +kernel
theorem d_La_law_1475 : decode b_La_law 1475 = .ok (.if_icmp .eq 5, 3) := by decide +kernel
theorem d_La_law_1478 : decode b_La_law 1478 = .ok (.iconst 0, 1) := by decide +kernel
theorem d_La_law_1479 : decode b_La_law 1479 = .ok (.ireturn, 1) := by decide +kernel
theorem d_La_law_1480 : decode b_La_law 1480 = .ok (.iload 5, 2) := by decide +kernel
theorem d_La_law_1482 : decode b_La_law 1482 = .ok (.ifCond .ne 15, 3) := by decide +kernel
theorem d_La_law_1485 : decode b_La_law 1485 = .ok (.aload_n 3, 1) := by decide +kernel
theorem d_La_law_1486 : decode b_La_law 1486 = .ok (.iconst 0, 1) := by decide +kernel
theorem d_La_law_1487 : decode b_La_law 1487 = .ok (.laload, 1) := by decide +kernel
theorem d_La_law_1488 : decode b_La_law 1488 = .ok (.iload 6, 2) := by decide +kernel
theorem d_La_law_1490 : decode b_La_law 1490 = .ok (.i2l, 1) := by decide +kernel
theorem d_La_law_1491 : decode b_La_law 1491 = .ok (.lcmp, 1) := by decide +kernel
theorem d_La_law_1492 : decode b_La_law 1492 = .ok (.ifCond .eq 5, 3) := by decide +kernel
theorem d_La_law_1495 : decode b_La_law 1495 = .ok (.iconst 0, 1) := by decide +kernel
theorem d_La_law_1496 : decode b_La_law 1496 = .ok (.ireturn, 1) := by decide +kernel
theorem d_La_law_1497 : decode b_La_law 1497 = .ok (.goto 151, 3) := by decide +kernel
theorem d_La_law_1500 : decode b_La_law 1500 = .ok (.aload_n 1, 1) := by decide +kernel
theorem d_La_law_1501 : decode b_La_law 1501 = .ok (.aload_n 0, 1) := by decide +kernel
theorem d_La_law_1502 : decode b_La_law 1502 = .ok (.iload 4, 2) := by decide +kernel
theorem d_La_law_1504 : decode b_La_law 1504 = .ok (.iconst 1, 1) := by decide +kernel
theorem d_La_law_1505 : decode b_La_law 1505 = .ok (.iadd, 1) := by decide +kernel
theorem d_La_law_1506 : decode b_La_law 1506 = .ok (.iaload, 1) := by decide +kernel
theorem d_La_law_1507 : decode b_La_law 1507 = .ok (.aload_n 0, 1) := by decide +kernel
theorem d_La_law_1508 : decode b_La_law 1508 = .ok (.iload 4, 2) := by decide +kernel
theorem d_La_law_1510 : decode b_La_law 1510 = .ok (.iconst 2, 1) := by decide +kernel
theorem d_La_law_1511 : decode b_La_law 1511 = .ok (.iadd, 1) := by decide +kernel
theorem d_La_law_1512 : decode b_La_law 1512 = .ok (.iaload, 1) := by decide +kernel
theorem d_La_law_1513 : decode b_La_law 1513 = .ok (.aload_n 0, 1) := by decide +kernel
theorem d_La_law_1514 : decode b_La_law 1514 = .ok (.iload 4, 2) := by decide +kernel
theorem d_La_law_1516 : decode b_La_law 1516 = .ok (.iconst 3, 1) := by decide +kernel
theorem d_La_law_1517 : decode b_La_law 1517 = .ok (.iadd, 1) := by decide +kernel
theorem d_La_law_1518 : decode b_La_law 1518 = .ok (.iaload, 1) := by decide +kernel
theorem d_La_law_1519 : decode b_La_law 1519 = .ok (.aload_n 3, 1) := by decide +kernel
theorem d_La_law_1520 : decode b_La_law 1520 = .ok (.invokestatic 158, 3) := by decide +kernel
theorem d_La_law_1523 : decode b_La_law 1523 = .ok (.istore 5, 2) := by decide +kernel
theorem d_La_law_1525 : decode b_La_law 1525 = .ok (.aload_n 2, 1) := by decide +kernel
theorem d_La_law_1526 : decode b_La_law 1526 = .ok (.aload_n 0, 1) := by decide +kernel
theorem d_La_law_1527 : decode b_La_law 1527 = .ok (.iload 4, 2) := by decide +kernel
theorem d_La_law_1529 : decode b_La_law 1529 = .ok (.iconst 1, 1) := by decide +kernel
theorem d_La_law_1530 : decode b_La_law 1530 = .ok (.iadd, 1) := by decide +kernel
theorem d_La_law_1531 : decode b_La_law 1531 = .ok (.iaload, 1) := by decide +kernel
theorem d_La_law_1532 : decode b_La_law 1532 = .ok (.aload_n 0, 1) := by decide +kernel
theorem d_La_law_1533 : decode b_La_law 1533 = .ok (.iload 4, 2) := by decide +kernel
theorem d_La_law_1535 : decode b_La_law 1535 = .ok (.iconst 2, 1) := by decide +kernel
theorem d_La_law_1536 : decode b_La_law 1536 = .ok (.iadd, 1) := by decide +kernel
theorem d_La_law_1537 : decode b_La_law 1537 = .ok (.iaload, 1) := by decide +kernel
theorem d_La_law_1538 : decode b_La_law 1538 = .ok (.aload_n 0, 1) := by decide +kernel
theorem d_La_law_1539 : decode b_La_law 1539 = .ok (.iload 4, 2) := by decide +kernel
theorem d_La_law_1541 : decode b_La_law 1541 = .ok (.iconst 3, 1) := by decide +kernel
theorem d_La_law_1542 : decode b_La_law 1542 = .ok (.iadd, 1) := by decide +kernel
theorem d_La_law_1543 : decode b_La_law 1543 = .ok (.iaload, 1) := by decide +kernel
theorem d_La_law_1544 : decode b_La_law 1544 = .ok (.invokevirtual 160, 3) := by decide +kernel
theorem d_La_law_1547 : decode b_La_law 1547 = .ok (.istore 6, 2) := by decide +kernel
theorem d_La_law_1549 : decode b_La_law 1549 = .ok (.aload_n 2, 1) := by decide +kernel
theorem d_La_law_1550 : decode b_La_law 1550 = .ok (.invokevirtual 94, 3) := by decide +kernel
theorem d_La_law_1553 : decode b_La_law 1553 = .ok (.iload 5, 2) := by decide +kernel
theorem d_La_law_1555 : decode b_La_law 1555 = .ok (.if_icmp .eq 5, 3) := by decide +kernel
theorem d_La_law_1558 : decode b_La_law 1558 = .ok (.iconst 0, 1) := by decide +kernel
theorem d_La_law_1559 : decode b_La_law 1559 = .ok (.ireturn, 1) := by decide +kernel
theorem d_La_law_1560 : decode b_La_law 1560 = .ok (.iload 5, 2) := by decide +kernel
theorem d_La_law_1562 : decode b_La_law 1562 = .ok (.ifCond .ne 15, 3) := by decide +kernel
theorem d_La_law_1565 : decode b_La_law 1565 = .ok (.aload_n 3, 1) := by decide +kernel
theorem d_La_law_1566 : decode b_La_law 1566 = .ok (.iconst 0, 1) := by decide +kernel
theorem d_La_law_1567 : decode b_La_law 1567 = .ok (.laload, 1) := by decide +kernel
theorem d_La_law_1568 : decode b_La_law 1568 = .ok (.iload 6, 2) := by decide +kernel
theorem d_La_law_1570 : decode b_La_law 1570 = .ok (.i2l, 1) := by decide +kernel
theorem d_La_law_1571 : decode b_La_law 1571 = .ok (.lcmp, 1) := by decide +kernel
theorem d_La_law_1572 : decode b_La_law 1572 = .ok (.ifCond .eq 5, 3) := by decide +kernel
theorem d_La_law_1575 : decode b_La_law 1575 = .ok (.iconst 0, 1) := by decide +kernel
theorem d_La_law_1576 : decode b_La_law 1576 = .ok (.ireturn, 1) := by decide +kernel
theorem d_La_law_1577 : decode b_La_law 1577 = .ok (.goto 71, 3) := by decide +kernel
theorem d_La_law_1580 : decode b_La_law 1580 = .ok (.aload_n 1, 1) := by decide +kernel
theorem d_La_law_1581 : decode b_La_law 1581 = .ok (.aload_n 0, 1) := by decide +kernel
theorem d_La_law_1582 : decode b_La_law 1582 = .ok (.iload 4, 2) := by decide +kernel
theorem d_La_law_1584 : decode b_La_law 1584 = .ok (.iconst 1, 1) := by decide +kernel
theorem d_La_law_1585 : decode b_La_law 1585 = .ok (.iadd, 1) := by decide +kernel
theorem d_La_law_1586 : decode b_La_law 1586 = .ok (.iaload, 1) := by decide +kernel
theorem d_La_law_1587 : decode b_La_law 1587 = .ok (.aload_n 0, 1) := by decide +kernel
theorem d_La_law_1588 : decode b_La_law 1588 = .ok (.iload 4, 2) := by decide +kernel
theorem d_La_law_1590 : decode b_La_law 1590 = .ok (.iconst 2, 1) := by decide +kernel
theorem d_La_law_1591 : decode b_La_law 1591 = .ok (.iadd, 1) := by decide +kernel
theorem d_La_law_1592 : decode b_La_law 1592 = .ok (.iaload, 1) := by decide +kernel
theorem d_La_law_1593 : decode b_La_law 1593 = .ok (.aload_n 3, 1) := by decide +kernel
theorem d_La_law_1594 : decode b_La_law 1594 = .ok (.invokestatic 161, 3) := by decide +kernel
theorem d_La_law_1597 : decode b_La_law 1597 = .ok (.istore 5, 2) := by decide +kernel
theorem d_La_law_1599 : decode b_La_law 1599 = .ok (.aload_n 2, 1) := by decide +kernel
theorem d_La_law_1600 : decode b_La_law 1600 = .ok (.aload_n 0, 1) := by decide +kernel
theorem d_La_law_1601 : decode b_La_law 1601 = .ok (.iload 4, 2) := by decide +kernel
theorem d_La_law_1603 : decode b_La_law 1603 = .ok (.iconst 1, 1) := by decide +kernel
theorem d_La_law_1604 : decode b_La_law 1604 = .ok (.iadd, 1) := by decide +kernel
theorem d_La_law_1605 : decode b_La_law 1605 = .ok (.iaload, 1) := by decide +kernel
theorem d_La_law_1606 : decode b_La_law 1606 = .ok (.aload_n 0, 1) := by decide +kernel
theorem d_La_law_1607 : decode b_La_law 1607 = .ok (.iload 4, 2) := by decide +kernel
theorem d_La_law_1609 : decode b_La_law 1609 = .ok (.iconst 2, 1) := by decide +kernel
theorem d_La_law_1610 : decode b_La_law 1610 = .ok (.iadd, 1) := by decide +kernel
theorem d_La_law_1611 : decode b_La_law 1611 = .ok (.iaload, 1) := by decide +kernel
theorem d_La_law_1612 : decode b_La_law 1612 = .ok (.invokevirtual 163, 3) := by decide +kernel
theorem d_La_law_1615 : decode b_La_law 1615 = .ok (.istore 6, 2) := by decide +kernel
theorem d_La_law_1617 : decode b_La_law 1617 = .ok (.aload_n 2, 1) := by decide +kernel
theorem d_La_law_1618 : decode b_La_law 1618 = .ok (.invokevirtual 94, 3) := by decide +kernel
theorem d_La_law_1621 : decode b_La_law 1621 = .ok (.iload 5, 2) := by decide +kernel
theorem d_La_law_1623 : decode b_La_law 1623 = .ok (.if_icmp .eq 5, 3) := by decide +kernel
theorem d_La_law_1626 : decode b_La_law 1626 = .ok (.iconst 0, 1) := by decide +kernel
theorem d_La_law_1627 : decode b_La_law 1627 = .ok (.ireturn, 1) := by decide +kernel
theorem d_La_law_1628 : decode b_La_law 1628 = .ok (.iload 5, 2) := by decide +kernel
theorem d_La_law_1630 : decode b_La_law 1630 = .ok (.ifCond .ne 15, 3) := by decide +kernel
theorem d_La_law_1633 : decode b_La_law 1633 = .ok (.aload_n 3, 1) := by decide +kernel
theorem d_La_law_1634 : decode b_La_law 1634 = .ok (.iconst 0, 1) := by decide +kernel
theorem d_La_law_1635 : decode b_La_law 1635 = .ok (.laload, 1) := by decide +kernel
theorem d_La_law_1636 : decode b_La_law 1636 = .ok (.iload 6, 2) := by decide +kernel
theorem d_La_law_1638 : decode b_La_law 1638 = .ok (.i2l, 1) := by decide +kernel
theorem d_La_law_1639 : decode b_La_law 1639 = .ok (.lcmp, 1) := by decide +kernel
theorem d_La_law_1640 : decode b_La_law 1640 = .ok (.ifCond .eq 5, 3) := by decide +kernel
theorem d_La_law_1643 : decode b_La_law 1643 = .ok (.iconst 0, 1) := by decide +kernel
theorem d_La_law_1644 : decode b_La_law 1644 = .ok (.ireturn, 1) := by decide +kernel
theorem d_La_law_1645 : decode b_La_law 1645 = .ok (.goto 3, 3) := by decide +kernel
theorem d_La_law_1648 : decode b_La_law 1648 = .ok (.iinc 4 5, 3) := by decide +kernel
theorem d_La_law_1651 : decode b_La_law 1651 = .ok (.goto (-1628), 3) := by decide +kernel
theorem d_La_law_1654 : decode b_La_law 1654 = .ok (.iconst 1, 1) := by decide +kernel
theorem d_La_law_1655 : decode b_La_law 1655 = .ok (.ireturn, 1) := by decide +kernel
