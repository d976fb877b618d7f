theorem d_Lw_law_230 : decode code 230 = .ok (.iload_n 3, 1) := by decide +kernel
theorem d_Lw_law_231 : decode code 231 = .ok (.iconst 4, 1) := by decide +kernel
theorem d_Lw_law_232 : decode code 232 = .ok (.iadd, 1) := by decide +kernel
theorem d_Lw_law_233 : decode code 233 = .ok (.iaload, 1) := by decide +kernel
theorem d_Lw_law_234 : decode code 234 = .ok (.aload_n 0, 1) := by decide +kernel
theorem d_Lw_law_235 : decode code 235 = .ok (.iload_n 3, 1) := by decide +kernel
theorem d_Lw_law_236 : decode code 236 = .ok (.iconst 5, 1) := by decide +kernel
theorem d_Lw_law_237 : decode code 237 = .ok (.iadd, 1) := by decide +kernel
theorem d_Lw_law_238 : decode code 238 = .ok (.iaload, 1) := by decide +kernel
theorem d_Lw_law_239 : decode code 239 = .ok (.invokevirtual 28, 3) := by decide +kernel
theorem d_Lw_law_242 : decode code 242 = .ok (.aload_n 2, 1) := by decide +kernel
theorem d_Lw_law_243 : decode code 243 = .ok (.aload_n 0, 1) := by decide +kernel
theorem d_Lw_law_244 : decode code 244 = .ok (.iload_n 3, 1) := by decide +kernel
theorem d_Lw_law_245 : decode code 245 = .ok (.iconst 1, 1) := by decide +kernel
theorem d_Lw_law_246 : decode code 246 = .ok (.iadd, 1) := by decide +kernel
theorem d_Lw_law_247 : decode code 247 = .ok (.iaload, 1) := by decide +kernel
theorem d_Lw_law_248 : decode code 248 = .ok (.aload_n 0, 1) := by decide +kernel
theorem d_Lw_law_249 : decode code 249 = .ok (.iload_n 3, 1) := by decide +kernel
theorem d_Lw_law_250 : decode code 250 = .ok (.iconst 2, 1) := by decide +kernel
theorem d_Lw_law_251 : decode code 251 = .ok (.iadd, 1) := by decide +kernel
theorem d_Lw_law_252 : decode code 252 = .ok (.iaload, 1) := by decide +kernel
theorem d_Lw_law_253 : decode code 253 = .ok (.aload_n 0, 1) := by decide +kernel
theorem d_Lw_law_254 : decode code 254 = .ok (.iload_n 3, 1) := by decide +kernel
theorem d_Lw_law_255 : decode code 255 = .ok (.iconst 3, 1) := by decide +kernel
theorem d_Lw_law_256 : decode code 256 = .ok (.iadd, 1) := by decide +kernel
theorem d_Lw_law_257 : decode code 257 = .ok (.iaload, 1) := by decide +kernel
theorem d_Lw_law_258 : decode code 258 = .ok (.aload_n 0, 1) := by decide +kernel
theorem d_Lw_law_259 : decode code 259 = .ok (.iload_n 3, 1) := by decide +kernel
theorem d_Lw_law_260 : decode code 260 = .ok (.iconst 4, 1) := by decide +kernel
theorem d_Lw_law_261 : decode code 261 = .ok (.iadd, 1) := by decide +kernel
theorem d_Lw_law_262 : decode code 262 = .ok (.iaload, 1) := by decide +kernel
theorem d_Lw_law_263 : decode code 263 = .ok (.aload_n 0, 1) := by decide +kernel
theorem d_Lw_law_264 : decode code 264 = .ok (.iload_n 3, 1) := by decide +kernel
theorem d_Lw_law_265 : decode code 265 = .ok (.iconst 5, 1) := by decide +kernel
theorem d_Lw_law_266 : decode code 266 = .ok (.iadd, 1) := by decide +kernel
theorem d_Lw_law_267 : decode code 267 = .ok (.iaload, 1) := by decide +kernel
theorem d_Lw_law_268 : decode code 268 = .ok (.invokevirtual 32, 3) := by decide +kernel
theorem d_Lw_law_271 : decode code 271 = .ok (.if_icmp .eq 275, 3) := by decide +kernel
theorem d_Lw_law_274 : decode code 274 = .ok (.iconst 0, 1) := by decide +kernel
theorem d_Lw_law_275 : decode code 275 = .ok (.ireturn, 1) := by decide +kernel
theorem d_Lw_law_276 : decode code 276 = .ok (.aload_n 1, 1) := by decide +kernel
theorem d_Lw_law_277 : decode code 277 = .ok (.aload_n 0, 1) := by decide +kernel
theorem d_Lw_law_278 : decode code 278 = .ok (.iload_n 3, 1) := by decide +kernel
theorem d_Lw_law_279 : decode code 279 = .ok (.iconst 1, 1) := by decide +kernel
theorem d_Lw_law_280 : decode code 280 = .ok (.iadd, 1) := by decide +kernel
theorem d_Lw_law_281 : decode code 281 = .ok (.iaload, 1) := by decide +kernel
theorem d_Lw_law_282 : decode code 282 = .ok (.aload_n 0, 1) := by decide +kernel
theorem d_Lw_law_283 : decode code 283 = .ok (.iload_n 3, 1) := by decide +kernel
theorem d_Lw_law_284 : decode code 284 = .ok (.iconst 2, 1) := by decide +kernel
theorem d_Lw_law_285 : decode code 285 = .ok (.iadd, 1) := by decide +kernel
theorem d_Lw_law_286 : decode code 286 = .ok (.iaload, 1) := by decide +kernel
theorem d_Lw_law_287 : decode code 287 = .ok (.invokevirtual 33, 3) := by decide +kernel
theorem d_Lw_law_290 : decode code 290 = .ok (.aload_n 2, 1) := by decide +kernel
theorem d_Lw_law_291 : decode code 291 = .ok (.aload_n 0, 1) := by decide +kernel
theorem d_Lw_law_292 : decode code 292 = .ok (.iload_n 3, 1) := by decide +kernel
theorem d_Lw_law_293 : decode code 293 = .ok (.iconst 1, 1) := by decide +kernel
theorem d_Lw_law_294 : decode code 294 = .ok (.iadd, 1) := by decide +kernel
theorem d_Lw_law_295 : decode code 295 = .ok (.iaload, 1) := by decide +kernel
theorem d_Lw_law_296 : decode code 296 = .ok (.aload_n 0, 1) := by decide +kernel
theorem d_Lw_law_297 : decode code 297 = .ok (.iload_n 3, 1) := by decide +kernel
theorem d_Lw_law_298 : decode code 298 = .ok (.iconst 2, 1) := by decide +kernel
theorem d_Lw_law_299 : decode code 299 = .ok (.iadd, 1) := by decide +kernel
theorem d_Lw_law_300 : decode code 300 = .ok (.iaload, 1) := by decide +kernel
theorem d_Lw_law_301 : decode code 301 = .ok (.invokevirtual 36, 3) := by decide +kernel
theorem d_Lw_law_304 : decode code 304 = .ok (.if_icmp .eq 242, 3) := by decide +kernel
theorem d_Lw_law_307 : decode code 307 = .ok (.iconst 0, 1) := by decide +kernel
theorem d_Lw_law_308 : decode code 308 = .ok (.ireturn, 1) := by decide +kernel
theorem d_Lw_law_309 : decode code 309 = .ok (.aload_n 1, 1) := by decide +kernel
theorem d_Lw_law_310 : decode code 310 = .ok (.aload_n 0, 1) := by decide +kernel
theorem d_Lw_law_311 : decode code 311 = .ok (.iload_n 3, 1) := by decide +kernel
theorem d_Lw_law_312 : decode code 312 = .ok (.iconst 1, 1) := by decide +kernel
theorem d_Lw_law_313 : decode code 313 = .ok (.iadd, 1) := by decide +kernel
theorem d_Lw_law_314 : decode code 314 = .ok (.iaload, 1) := by decide +kernel
theorem d_Lw_law_315 : decode code 315 = .ok (.aload_n 0, 1) := by decide +kernel
theorem d_Lw_law_316 : decode code 316 = .ok (.iload_n 3, 1) := by decide +kernel
theorem d_Lw_law_317 : decode code 317 = .ok (.iconst 2, 1) := by decide +kernel
theorem d_Lw_law_318 : decode code 318 = .ok (.iadd, 1) := by decide +kernel
theorem d_Lw_law_319 : decode code 319 = .ok (.iaload, 1) := by decide +kernel
theorem d_Lw_law_320 : decode code 320 = .ok (.invokevirtual 37, 3) := by decide +kernel
theorem d_Lw_law_323 : decode code 323 = .ok (.aload_n 2, 1) := by decide +kernel
theorem d_Lw_law_324 : decode code 324 = .ok (.aload_n 0, 1) := by decide +kernel
theorem d_Lw_law_325 : decode code 325 = .ok (.iload_n 3, 1) := by decide +kernel
theorem d_Lw_law_326 : decode code 326 = .ok (.iconst 1, 1) := by decide +kernel
theorem d_Lw_law_327 : decode code 327 = .ok (.iadd, 1) := by decide +kernel
theorem d_Lw_law_328 : decode code 328 = .ok (.iaload, 1) := by decide +kernel
theorem d_Lw_law_329 : decode code 329 = .ok (.aload_n 0, 1) := by decide +kernel
theorem d_Lw_law_330 : decode code 330 = .ok (.iload_n 3, 1) := by decide +kernel
theorem d_Lw_law_331 : decode code 331 = .ok (.iconst 2, 1) := by decide +kernel
theorem d_Lw_law_332 : decode code 332 = .ok (.iadd, 1) := by decide +kernel
theorem d_Lw_law_333 : decode code 333 = .ok (.iaload, 1) := by decide +kernel
theorem d_Lw_law_334 : decode code 334 = .ok (.invokevirtual 40, 3) := by decide +kernel
theorem d_Lw_law_337 : decode code 337 = .ok (.if_icmp .eq 209, 3) := by decide +kernel
theorem d_Lw_law_340 : decode code 340 = .ok (.iconst 0, 1) := by decide +kernel
theorem d_Lw_law_341 : decode code 341 = .ok (.ireturn, 1) := by decide +kernel
theorem d_Lw_law_342 : decode code 342 = .ok (.aload_n 1, 1) := by decide +kernel
theorem d_Lw_law_343 : decode code 343 = .ok (.aload_n 0, 1) := by decide +kernel
theorem d_Lw_law_344 : decode code 344 = .ok (.iload_n 3, 1) := by decide +kernel
theorem d_Lw_law_345 : decode code 345 = .ok (.iconst 1, 1) := by decide +kernel
theorem d_Lw_law_346 : decode code 346 = .ok (.iadd, 1) := by decide +kernel
theorem d_Lw_law_347 : decode code 347 = .ok (.iaload, 1) := by decide +kernel
theorem d_Lw_law_348 : decode code 348 = .ok (.aload_n 0, 1) := by decide +kernel
theorem d_Lw_law_349 : decode code 349 = .ok (.iload_n 3, 1) := by decide +kernel
theorem d_Lw_law_350 : decode code 350 = .ok (.iconst 2, 1) := by decide +kernel
theorem d_Lw_law_351 : decode code 351 = .ok (.iadd, 1) := by decide +kernel
theorem d_Lw_law_352 : decode code 352 = .ok (.iaload, 1) := by decide +kernel
theorem d_Lw_law_353 : decode code 353 = .ok (.invokevirtual 41, 3) := by decide +kernel
theorem d_Lw_law_356 : decode code 356 = .ok (.aload_n 2, 1) := by decide +kernel
theorem d_Lw_law_357 : decode code 357 = .ok (.aload_n 0, 1) := by decide +kernel
theorem d_Lw_law_358 : decode code 358 = .ok (.iload_n 3, 1) := by decide +kernel
theorem d_Lw_law_359 : decode code 359 = .ok (.iconst 1, 1) := by decide +kernel
theorem d_Lw_law_360 : decode code 360 = .ok (.iadd, 1) := by decide +kernel
theorem d_Lw_law_361 : decode code 361 = .ok (.iaload, 1) := by decide +kernel
theorem d_Lw_law_362 : decode code 362 = .ok (.aload_n 0, 1) := by decide +kernel
theorem d_Lw_law_363 : decode code 363 = .ok (.iload_n 3, 1) := by decide +kernel
theorem d_Lw_law_364 : decode code 364 = .ok (.iconst 2, 1) := by decide +kernel
theorem d_Lw_law_365 : decode code 365 = .ok (.iadd, 1) := by decide +kernel
theorem d_Lw_law_366 : decode code 366 = .ok (.iaload, 1) := by decide +kernel
theorem d_Lw_law_367 : decode code 367 = .ok (.invokevirtual 44, 3) := by decide +kernel
theorem d_Lw_law_370 : decode code 370 = .ok (.if_icmp .eq 176, 3) := by decide +kernel
theorem d_Lw_law_373 : decode code 373 = .ok (.iconst 0, 1) := by decide +kernel
theorem d_Lw_law_374 : decode code 374 = .ok (.ireturn, 1) := by decide +kernel
theorem d_Lw_law_375 : decode code 375 = .ok (.aload_n 1, 1) := by decide +kernel
theorem d_Lw_law_376 : decode code 376 = .ok (.aload_n 0, 1) := by decide +kernel
theorem d_Lw_law_377 : decode code 377 = .ok (.iload_n 3, 1) := by decide +kernel
theorem d_Lw_law_378 : decode code 378 = .ok (.iconst 1, 1) := by decide +kernel
theorem d_Lw_law_379 : decode code 379 = .ok (.iadd, 1) := by decide +kernel
theorem d_Lw_law_380 : decode code 380 = .ok (.iaload, 1) := by decide +kernel
theorem d_Lw_law_381 : decode code 381 = .ok (.invokevirtual 45, 3) := by decide +kernel
theorem d_Lw_law_384 : decode code 384 = .ok (.aload_n 2, 1) := by decide +kernel
theorem d_Lw_law_385 : decode code 385 = .ok (.aload_n 0, 1) := by decide +kernel
