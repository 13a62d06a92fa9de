/-! checked by the kernel, part 5 -/
set_option maxRecDepth 10000000 in
theorem ck_300 : ty_kok ty_h (ty_ex 6 6) 181 kc_300 = true := by decide +kernel
set_option maxRecDepth 10000000 in
theorem ck_301 : ty_kok ty_h (ty_ex 6 6) 181 kc_301 = true := by decide +kernel
set_option maxRecDepth 10000000 in
theorem ck_302 : ty_kok ty_h (ty_ex 6 6) 181 kc_302 = true := by decide +kernel
set_option maxRecDepth 10000000 in
theorem ck_303 : ty_kok ty_h (ty_ex 6 6) 181 kc_303 = true := by decide +kernel
set_option maxRecDepth 10000000 in
theorem ck_304 : ty_kok ty_h (ty_ex 6 6) 181 kc_304 = true := by decide +kernel
set_option maxRecDepth 10000000 in
theorem ck_305 : ty_kok ty_h (ty_ex 6 6) 181 kc_305 = true := by decide +kernel
set_option maxRecDepth 10000000 in
theorem ck_306 : ty_kok ty_h (ty_ex 6 6) 181 kc_306 = true := by decide +kernel
set_option maxRecDepth 10000000 in
theorem ck_307 : ty_kok ty_h (ty_ex 6 6) 181 kc_307 = true := by decide +kernel
set_option maxRecDepth 10000000 in
theorem ck_308 : ty_kok ty_h (ty_ex 6 6) 181 kc_308 = true := by decide +kernel
set_option maxRecDepth 10000000 in
theorem ck_309 : ty_kok ty_h (ty_ex 6 6) 181 kc_309 = true := by decide +kernel
set_option maxRecDepth 10000000 in
theorem ck_310 : ty_kok ty_h (ty_ex 6 6) 181 kc_310 = true := by decide +kernel
set_option maxRecDepth 10000000 in
theorem ck_311 : ty_kok ty_h (ty_ex 6 6) 181 kc_311 = true := by decide +kernel
set_option maxRecDepth 10000000 in
theorem ck_312 : ty_kok ty_h (ty_ex 6 6) 181 kc_312 = true := by decide +kernel
set_option maxRecDepth 10000000 in
theorem ck_313 : ty_kok ty_h (ty_ex 6 6) 181 kc_313 = true := by decide +kernel
set_option maxRecDepth 10000000 in
theorem ck_314 : ty_kok ty_h (ty_ex 6 6) 181 kc_314 = true := by decide +kernel
set_option maxRecDepth 10000000 in
theorem ck_315 : ty_kok ty_h (ty_ex 6 6) 181 kc_315 = true := by decide +kernel
set_option maxRecDepth 10000000 in
theorem ck_316 : ty_kok ty_h (ty_ex 6 6) 181 kc_316 = true := by decide +kernel
set_option maxRecDepth 10000000 in
theorem ck_317 : ty_kok ty_h (ty_ex 6 6) 181 kc_317 = true := by decide +kernel
set_option maxRecDepth 10000000 in
theorem ck_318 : ty_kok ty_h (ty_ex 6 6) 181 kc_318 = true := by decide +kernel
set_option maxRecDepth 10000000 in
theorem ck_319 : ty_kok ty_h (ty_ex 6 6) 181 kc_319 = true := by decide +kernel
set_option maxRecDepth 10000000 in
theorem ck_320 : ty_kok ty_h (ty_ex 6 6) 181 kc_320 = true := by decide +kernel
set_option maxRecDepth 10000000 in
theorem ck_321 : ty_kok ty_h (ty_ex 6 6) 181 kc_321 = true := by decide +kernel
set_option maxRecDepth 10000000 in
theorem ck_322 : ty_kok ty_h (ty_ex 6 6) 181 kc_322 = true := by decide +kernel
set_option maxRecDepth 10000000 in
theorem ck_323 : ty_kok ty_h (ty_ex 6 6) 181 kc_323 = true := by decide +kernel
set_option maxRecDepth 10000000 in
theorem ck_324 : ty_kok ty_h (ty_ex 6 6) 181 kc_324 = true := by decide +kernel
set_option maxRecDepth 10000000 in
theorem ck_325 : ty_kok ty_h (ty_ex 6 6) 181 kc_325 = true := by decide +kernel
set_option maxRecDepth 10000000 in
theorem ck_326 : ty_kok ty_h (ty_ex 6 6) 181 kc_326 = true := by decide +kernel
set_option maxRecDepth 10000000 in
theorem ck_327 : ty_kok ty_h (ty_ex 6 6) 181 kc_327 = true := by decide +kernel
set_option maxRecDepth 10000000 in
theorem ck_328 : ty_kok ty_h (ty_ex 6 6) 181 kc_328 = true := by decide +kernel
set_option maxRecDepth 10000000 in
theorem ck_329 : ty_kok ty_h (ty_ex 6 6) 181 kc_329 = true := by decide +kernel
set_option maxRecDepth 10000000 in
theorem ck_330 : ty_kok ty_h (ty_ex 6 6) 181 kc_330 = true := by decide +kernel
set_option maxRecDepth 10000000 in
theorem ck_331 : ty_kok ty_h (ty_ex 6 6) 181 kc_331 = true := by decide +kernel
set_option maxRecDepth 10000000 in
theorem ck_332 : ty_kok ty_h (ty_ex 7 6) 184 kc_332 = true := by decide +kernel
set_option maxRecDepth 10000000 in
theorem ck_333 : ty_kok ty_h (ty_ex 7 6) 184 kc_333 = true := by decide +kernel
set_option maxRecDepth 10000000 in
theorem ck_334 : ty_kok ty_h (ty_ex 7 6) 184 kc_334 = true := by decide +kernel
set_option maxRecDepth 10000000 in
theorem ck_335 : ty_kok ty_h (ty_ex 7 6) 184 kc_335 = true := by decide +kernel
set_option maxRecDepth 10000000 in
theorem ck_336 : ty_kok ty_h (ty_ex 7 6) 184 kc_336 = true := by decide +kernel
set_option maxRecDepth 10000000 in
theorem ck_337 : ty_kok ty_h (ty_ex 7 6) 184 kc_337 = true := by decide +kernel
set_option maxRecDepth 10000000 in
theorem ck_338 : ty_kok ty_h (ty_ex 7 6) 184 kc_338 = true := by decide +kernel
set_option maxRecDepth 10000000 in
theorem ck_339 : ty_kok ty_h (ty_ex 7 6) 184 kc_339 = true := by decide +kernel
set_option maxRecDepth 10000000 in
theorem ck_340 : ty_kok ty_h (ty_ex 7 6) 184 kc_340 = true := by decide +kernel
set_option maxRecDepth 10000000 in
theorem ck_341 : ty_kok ty_h (ty_ex 7 6) 184 kc_341 = true := by decide +kernel
set_option maxRecDepth 10000000 in
theorem ck_342 : ty_kok ty_h (ty_ex 7 6) 184 kc_342 = true := by decide +kernel
set_option maxRecDepth 10000000 in
theorem ck_343 : ty_kok ty_h (ty_ex 7 6) 184 kc_343 = true := by decide +kernel
set_option maxRecDepth 10000000 in
theorem ck_344 : ty_kok ty_h (ty_ex 7 6) 184 kc_344 = true := by decide +kernel
set_option maxRecDepth 10000000 in
theorem ck_345 : ty_kok ty_h (ty_ex 7 6) 184 kc_345 = true := by decide +kernel
set_option maxRecDepth 10000000 in
theorem ck_346 : ty_kok ty_h (ty_ex 7 6) 184 kc_346 = true := by decide +kernel
set_option maxRecDepth 10000000 in
theorem ck_347 : ty_kok ty_h (ty_ex 7 6) 184 kc_347 = true := by decide +kernel
set_option maxRecDepth 10000000 in
theorem ck_348 : ty_kok ty_h (ty_ex 7 6) 184 kc_348 = true := by decide +kernel
set_option maxRecDepth 10000000 in
theorem ck_349 : ty_kok ty_h (ty_ex 7 6) 184 kc_349 = true := by decide +kernel
set_option maxRecDepth 10000000 in
theorem ck_350 : ty_kok ty_h (ty_ex 7 6) 184 kc_350 = true := by decide +kernel
set_option maxRecDepth 10000000 in
theorem ck_351 : ty_kok ty_h (ty_ex 7 6) 184 kc_351 = true := by decide +kernel
set_option maxRecDepth 10000000 in
theorem ck_352 : ty_kok ty_h (ty_ex 7 6) 184 kc_352 = true := by decide +kernel
set_option maxRecDepth 10000000 in
theorem ck_353 : ty_kok ty_h (ty_ex 7 6) 184 kc_353 = true := by decide +kernel
set_option maxRecDepth 10000000 in
theorem ck_354 : ty_kok ty_h (ty_ex 7 6) 184 kc_354 = true := by decide +kernel
set_option maxRecDepth 10000000 in
theorem ck_355 : ty_kok ty_h (ty_ex 7 6) 184 kc_355 = true := by decide +kernel
set_option maxRecDepth 10000000 in
theorem ck_356 : ty_kok ty_h (ty_ex 7 6) 184 kc_356 = true := by decide +kernel
set_option maxRecDepth 10000000 in
theorem ck_357 : ty_kok ty_h (ty_ex 7 6) 184 kc_357 = true := by decide +kernel
set_option maxRecDepth 10000000 in
theorem ck_358 : ty_kok ty_h (ty_ex 7 6) 184 kc_358 = true := by decide +kernel
set_option maxRecDepth 10000000 in
theorem ck_359 : ty_kok ty_h (ty_ex 7 6) 184 kc_359 = true := by decide +kernel
