theorem d_lw_law_226 : decode code 226 = .ok (.iconst 1, 1) := by decide +kernel
theorem d_lw_law_227 : decode code 227 = .ok (.iadd, 1) := by decide +kernel
theorem d_lw_law_228 : decode code 228 = .ok (.iaload, 1) := by decide +kernel
theorem d_lw_law_229 : decode code 229 = .ok (.aload_n 0, 1) := by decide +kernel
theorem d_lw_law_230 : decode code 230 = .ok (.iload 4, 2) := by decide +kernel
theorem d_lw_law_232 : decode code 232 = .ok (.iconst 2, 1) := by decide +kernel
theorem d_lw_law_233 : decode code 233 = .ok (.iadd, 1) := by decide +kernel
theorem d_lw_law_234 : decode code 234 = .ok (.iaload, 1) := by decide +kernel
theorem d_lw_law_235 : decode code 235 = .ok (.aload_n 0, 1) := by decide +kernel
theorem d_lw_law_236 : decode code 236 = .ok (.iload 4, 2) := by decide +kernel
theorem d_lw_law_238 : decode code 238 = .ok (.iconst 3, 1) := by decide +kernel
theorem d_lw_law_239 : decode code 239 = .ok (.iadd, 1) := by decide +kernel
theorem d_lw_law_240 : decode code 240 = .ok (.iaload, 1) := by decide +kernel
theorem d_lw_law_241 : decode code 241 = .ok (.invokevirtual 63, 3) := by decide +kernel
theorem d_lw_law_244 : decode code 244 = .ok (.if_icmp .eq 773, 3) := by decide +kernel
theorem d_lw_law_247 : decode code 247 = .ok (.iconst 0, 1) := by decide +kernel
theorem d_lw_law_248 : decode code 248 = .ok (.ireturn, 1) := by decide +kernel
theorem d_lw_law_249 : decode code 249 = .ok (.aload_n 1, 1) := by decide +kernel
theorem d_lw_law_250 : decode code 250 = .ok (.aload_n 0, 1) := by decide +kernel
theorem d_lw_law_251 : decode code 251 = .ok (.iload 4, 2) := by decide +kernel
theorem d_lw_law_253 : decode code 253 = .ok (.iconst 1, 1) := by decide +kernel
theorem d_lw_law_254 : decode code 254 = .ok (.iadd, 1) := by decide +kernel
theorem d_lw_law_255 : decode code 255 = .ok (.iaload, 1) := by decide +kernel
theorem d_lw_law_256 : decode code 256 = .ok (.ifCond .eq 7, 3) := by decide +kernel
theorem d_lw_law_259 : decode code 259 = .ok (.iconst 1, 1) := by decide +kernel
theorem d_lw_law_260 : decode code 260 = .ok (.goto 4, 3) := by decide +kernel
theorem d_lw_law_263 : decode code 263 = .ok (.iconst 0, 1) := by decide +kernel
theorem d_lw_law_264 : decode code 264 = .ok (.invokevirtual 64, 3) := by decide +kernel
theorem d_lw_law_267 : decode code 267 = .ok (.aload_n 2, 1) := by decide +kernel
theorem d_lw_law_268 : decode code 268 = .ok (.aload_n 0, 1) := by decide +kernel
theorem d_lw_law_269 : decode code 269 = .ok (.iload 4, 2) := by decide +kernel
theorem d_lw_law_271 : decode code 271 = .ok (.iconst 1, 1) := by decide +kernel
theorem d_lw_law_272 : decode code 272 = .ok (.iadd, 1) := by decide +kernel
theorem d_lw_law_273 : decode code 273 = .ok (.iaload, 1) := by decide +kernel
theorem d_lw_law_274 : decode code 274 = .ok (.ifCond .eq 7, 3) := by decide +kernel
theorem d_lw_law_277 : decode code 277 = .ok (.iconst 1, 1) := by decide +kernel
theorem d_lw_law_278 : decode code 278 = .ok (.goto 4, 3) := by decide +kernel
theorem d_lw_law_281 : decode code 281 = .ok (.iconst 0, 1) := by decide +kernel
theorem d_lw_law_282 : decode code 282 = .ok (.invokevirtual 68, 3) := by decide +kernel
theorem d_lw_law_285 : decode code 285 = .ok (.if_icmp .eq 732, 3) := by decide +kernel
theorem d_lw_law_288 : decode code 288 = .ok (.iconst 0, 1) := by decide +kernel
theorem d_lw_law_289 : decode code 289 = .ok (.ireturn, 1) := by decide +kernel
theorem d_lw_law_290 : decode code 290 = .ok (.aload_n 1, 1) := by decide +kernel
theorem d_lw_law_291 : decode code 291 = .ok (.aload_n 0, 1) := by decide +kernel
theorem d_lw_law_292 : decode code 292 = .ok (.iload 4, 2) := by decide +kernel
theorem d_lw_law_294 : decode code 294 = .ok (.iconst 1, 1) := by decide +kernel
theorem d_lw_law_295 : decode code 295 = .ok (.iadd, 1) := by decide +kernel
theorem d_lw_law_296 : decode code 296 = .ok (.iaload, 1) := by decide +kernel
theorem d_lw_law_297 : decode code 297 = .ok (.aload_n 0, 1) := by decide +kernel
theorem d_lw_law_298 : decode code 298 = .ok (.iload 4, 2) := by decide +kernel
theorem d_lw_law_300 : decode code 300 = .ok (.iconst 2, 1) := by decide +kernel
theorem d_lw_law_301 : decode code 301 = .ok (.iadd, 1) := by decide +kernel
theorem d_lw_law_302 : decode code 302 = .ok (.iaload, 1) := by decide +kernel
theorem d_lw_law_303 : decode code 303 = .ok (.aload_n 0, 1) := by decide +kernel
theorem d_lw_law_304 : decode code 304 = .ok (.iload 4, 2) := by decide +kernel
theorem d_lw_law_306 : decode code 306 = .ok (.iconst 3, 1) := by decide +kernel
theorem d_lw_law_307 : decode code 307 = .ok (.iadd, 1) := by decide +kernel
theorem d_lw_law_308 : decode code 308 = .ok (.iaload, 1) := by decide +kernel
theorem d_lw_law_309 : decode code 309 = .ok (.aload_n 3, 1) := by decide +kernel
theorem d_lw_law_310 : decode code 310 = .ok (.invokestatic 69, 3) := by decide +kernel
theorem d_lw_law_313 : decode code 313 = .ok (.istore 5, 2) := by decide +kernel
theorem d_lw_law_315 : decode code 315 = .ok (.aload_n 2, 1) := by decide +kernel
theorem d_lw_law_316 : decode code 316 = .ok (.aload_n 0, 1) := by decide +kernel
theorem d_lw_law_317 : decode code 317 = .ok (.iload 4, 2) := by decide +kernel
theorem d_lw_law_319 : decode code 319 = .ok (.iconst 1, 1) := by decide +kernel
theorem d_lw_law_320 : decode code 320 = .ok (.iadd, 1) := by decide +kernel
theorem d_lw_law_321 : decode code 321 = .ok (.iaload, 1) := by decide +kernel
theorem d_lw_law_322 : decode code 322 = .ok (.aload_n 0, 1) := by decide +kernel
theorem d_lw_law_323 : decode code 323 = .ok (.iload 4, 2) := by decide +kernel
theorem d_lw_law_325 : decode code 325 = .ok (.iconst 2, 1) := by decide +kernel
theorem d_lw_law_326 : decode code 326 = .ok (.iadd, 1) := by decide +kernel
theorem d_lw_law_327 : decode code 327 = .ok (.iaload, 1) := by decide +kernel
theorem d_lw_law_328 : decode code 328 = .ok (.aload_n 0, 1) := by decide +kernel
theorem d_lw_law_329 : decode code 329 = .ok (.iload 4, 2) := by decide +kernel
theorem d_lw_law_331 : decode code 331 = .ok (.iconst 3, 1) := by decide +kernel
theorem d_lw_law_332 : decode code 332 = .ok (.iadd, 1) := by decide +kernel
theorem d_lw_law_333 : decode code 333 = .ok (.iaload, 1) := by decide +kernel
theorem d_lw_law_334 : decode code 334 = .ok (.invokevirtual 72, 3) := by decide +kernel
theorem d_lw_law_337 : decode code 337 = .ok (.istore 6, 2) := by decide +kernel
theorem d_lw_law_339 : decode code 339 = .ok (.aload_n 2, 1) := by decide +kernel
theorem d_lw_law_340 : decode code 340 = .ok (.invokevirtual 55, 3) := by decide +kernel
theorem d_lw_law_343 : decode code 343 = .ok (.iload 5, 2) := by decide +kernel
theorem d_lw_law_345 : decode code 345 = .ok (.if_icmp .eq 5, 3) := by decide +kernel
theorem d_lw_law_348 : decode code 348 = .ok (.iconst 0, 1) := by decide +kernel
theorem d_lw_law_349 : decode code 349 = .ok (.ireturn, 1) := by decide +kernel
theorem d_lw_law_350 : decode code 350 = .ok (.iload 5, 2) := by decide +kernel
theorem d_lw_law_352 : decode code 352 = .ok (.ifCond .ne 15, 3) := by decide +kernel
theorem d_lw_law_355 : decode code 355 = .ok (.aload_n 3, 1) := by decide +kernel
theorem d_lw_law_356 : decode code 356 = .ok (.iconst 0, 1) := by decide +kernel
theorem d_lw_law_357 : decode code 357 = .ok (.laload, 1) := by decide +kernel
theorem d_lw_law_358 : decode code 358 = .ok (.iload 6, 2) := by decide +kernel
theorem d_lw_law_360 : decode code 360 = .ok (.i2l, 1) := by decide +kernel
theorem d_lw_law_361 : decode code 361 = .ok (.lcmp, 1) := by decide +kernel
theorem d_lw_law_362 : decode code 362 = .ok (.ifCond .eq 5, 3) := by decide +kernel
theorem d_lw_law_365 : decode code 365 = .ok (.iconst 0, 1) := by decide +kernel
theorem d_lw_law_366 : decode code 366 = .ok (.ireturn, 1) := by decide +kernel
theorem d_lw_law_367 : decode code 367 = .ok (.goto 650, 3) := by decide +kernel
theorem d_lw_law_370 : decode code 370 = .ok (.aload_n 1, 1) := by decide +kernel
theorem d_lw_law_371 : decode code 371 = .ok (.aload_n 0, 1) := by decide +kernel
theorem d_lw_law_372 : decode code 372 = .ok (.iload 4, 2) := by decide +kernel
theorem d_lw_law_374 : decode code 374 = .ok (.iconst 1, 1) := by decide +kernel
theorem d_lw_law_375 : decode code 375 = .ok (.iadd, 1) := by decide +kernel
theorem d_lw_law_376 : decode code 376 = .ok (.iaload, 1) := by decide +kernel
theorem d_lw_law_377 : decode code 377 = .ok (.aload_n 0, 1) := by decide +kernel
theorem d_lw_law_378 : decode code 378 = .ok (.iload 4, 2) := by decide +kernel
theorem d_lw_law_380 : decode code 380 = .ok (.iconst 2, 1) := by decide +kernel
theorem d_lw_law_381 : decode code 381 = .ok (.iadd, 1) := by decide +kernel
theorem d_lw_law_382 : decode code 382 = .ok (.iaload, 1) := by decide +kernel
theorem d_lw_law_383 : decode code 383 = .ok (.aload_n 0, 1) := by decide +kernel
theorem d_lw_law_384 : decode code 384 = .ok (.iload 4, 2) := by decide +kernel
