/-! checked by the kernel, part 4 -/
set_option maxRecDepth 10000000 in
theorem ck_240 : ty_kok ty_h (ty_ex 2 6) 202 kc_240 = true := by decide +kernel
set_option maxRecDepth 10000000 in
theorem ck_241 : ty_kok ty_h (ty_ex 2 6) 202 kc_241 = true := by decide +kernel
set_option maxRecDepth 10000000 in
theorem ck_242 : ty_kok ty_h (ty_ex 2 6) 202 kc_242 = true := by decide +kernel
set_option maxRecDepth 10000000 in
theorem ck_243 : ty_kok ty_h (ty_ex 2 6) 202 kc_243 = true := by decide +kernel
set_option maxRecDepth 10000000 in
theorem ck_244 : ty_kok ty_h (ty_ex 2 6) 202 kc_244 = true := by decide +kernel
set_option maxRecDepth 10000000 in
theorem ck_245 : ty_kok ty_h (ty_ex 2 6) 202 kc_245 = true := by decide +kernel
set_option maxRecDepth 10000000 in
theorem ck_246 : ty_kok ty_h (ty_ex 3 6) 172 kc_246 = true := by decide +kernel
set_option maxRecDepth 10000000 in
theorem ck_247 : ty_kok ty_h (ty_ex 3 6) 172 kc_247 = true := by decide +kernel
set_option maxRecDepth 10000000 in
theorem ck_248 : ty_kok ty_h (ty_ex 3 6) 182 kc_248 = true := by decide +kernel
set_option maxRecDepth 10000000 in
theorem ck_249 : ty_kok ty_h (ty_ex 3 6) 182 kc_249 = true := by decide +kernel
set_option maxRecDepth 10000000 in
theorem ck_250 : ty_kok ty_h (ty_ex 4 6) 101 kc_250 = true := by decide +kernel
set_option maxRecDepth 10000000 in
theorem ck_251 : ty_kok ty_h (ty_ex 4 6) 101 kc_251 = true := by decide +kernel
set_option maxRecDepth 10000000 in
theorem ck_252 : ty_kok ty_h (ty_ex 4 6) 177 kc_252 = true := by decide +kernel
set_option maxRecDepth 10000000 in
theorem ck_253 : ty_kok ty_h (ty_ex 4 6) 177 kc_253 = true := by decide +kernel
set_option maxRecDepth 10000000 in
theorem ck_254 : ty_kok ty_h (ty_ex 5 6) 185 kc_254 = true := by decide +kernel
set_option maxRecDepth 10000000 in
theorem ck_255 : ty_kok ty_h (ty_ex 5 6) 185 kc_255 = true := by decide +kernel
set_option maxRecDepth 10000000 in
theorem ck_256 : ty_kok ty_h (ty_ex 5 6) 208 kc_256 = true := by decide +kernel
set_option maxRecDepth 10000000 in
theorem ck_257 : ty_kok ty_h (ty_ex 5 6) 208 kc_257 = true := by decide +kernel
set_option maxRecDepth 10000000 in
theorem ck_258 : ty_kok ty_h (ty_ex 6 6) 167 kc_258 = true := by decide +kernel
set_option maxRecDepth 10000000 in
theorem ck_259 : ty_kok ty_h (ty_ex 6 6) 167 kc_259 = true := by decide +kernel
set_option maxRecDepth 10000000 in
theorem ck_260 : ty_kok ty_h (ty_ex 6 6) 167 kc_260 = true := by decide +kernel
set_option maxRecDepth 10000000 in
theorem ck_261 : ty_kok ty_h (ty_ex 6 6) 167 kc_261 = true := by decide +kernel
set_option maxRecDepth 10000000 in
theorem ck_262 : ty_kok ty_h (ty_ex 6 6) 167 kc_262 = true := by decide +kernel
set_option maxRecDepth 10000000 in
theorem ck_263 : ty_kok ty_h (ty_ex 6 6) 167 kc_263 = true := by decide +kernel
set_option maxRecDepth 10000000 in
theorem ck_264 : ty_kok ty_h (ty_ex 6 6) 167 kc_264 = true := by decide +kernel
set_option maxRecDepth 10000000 in
theorem ck_265 : ty_kok ty_h (ty_ex 6 6) 167 kc_265 = true := by decide +kernel
set_option maxRecDepth 10000000 in
theorem ck_266 : ty_kok ty_h (ty_ex 6 6) 167 kc_266 = true := by decide +kernel
set_option maxRecDepth 10000000 in
theorem ck_267 : ty_kok ty_h (ty_ex 6 6) 167 kc_267 = true := by decide +kernel
set_option maxRecDepth 10000000 in
theorem ck_268 : ty_kok ty_h (ty_ex 6 6) 167 kc_268 = true := by decide +kernel
set_option maxRecDepth 10000000 in
theorem ck_269 : ty_kok ty_h (ty_ex 6 6) 167 kc_269 = true := by decide +kernel
set_option maxRecDepth 10000000 in
theorem ck_270 : ty_kok ty_h (ty_ex 6 6) 167 kc_270 = true := by decide +kernel
set_option maxRecDepth 10000000 in
theorem ck_271 : ty_kok ty_h (ty_ex 6 6) 167 kc_271 = true := by decide +kernel
set_option maxRecDepth 10000000 in
theorem ck_272 : ty_kok ty_h (ty_ex 6 6) 167 kc_272 = true := by decide +kernel
set_option maxRecDepth 10000000 in
theorem ck_273 : ty_kok ty_h (ty_ex 6 6) 167 kc_273 = true := by decide +kernel
set_option maxRecDepth 10000000 in
theorem ck_274 : ty_kok ty_h (ty_ex 6 6) 167 kc_274 = true := by decide +kernel
set_option maxRecDepth 10000000 in
theorem ck_275 : ty_kok ty_h (ty_ex 6 6) 167 kc_275 = true := by decide +kernel
set_option maxRecDepth 10000000 in
theorem ck_276 : ty_kok ty_h (ty_ex 6 6) 167 kc_276 = true := by decide +kernel
set_option maxRecDepth 10000000 in
theorem ck_277 : ty_kok ty_h (ty_ex 6 6) 167 kc_277 = true := by decide +kernel
set_option maxRecDepth 10000000 in
theorem ck_278 : ty_kok ty_h (ty_ex 6 6) 167 kc_278 = true := by decide +kernel
set_option maxRecDepth 10000000 in
theorem ck_279 : ty_kok ty_h (ty_ex 6 6) 167 kc_279 = true := by decide +kernel
set_option maxRecDepth 10000000 in
theorem ck_280 : ty_kok ty_h (ty_ex 6 6) 167 kc_280 = true := by decide +kernel
set_option maxRecDepth 10000000 in
theorem ck_281 : ty_kok ty_h (ty_ex 6 6) 167 kc_281 = true := by decide +kernel
set_option maxRecDepth 10000000 in
theorem ck_282 : ty_kok ty_h (ty_ex 6 6) 167 kc_282 = true := by decide +kernel
set_option maxRecDepth 10000000 in
theorem ck_283 : ty_kok ty_h (ty_ex 6 6) 167 kc_283 = true := by decide +kernel
set_option maxRecDepth 10000000 in
theorem ck_284 : ty_kok ty_h (ty_ex 6 6) 167 kc_284 = true := by decide +kernel
set_option maxRecDepth 10000000 in
theorem ck_285 : ty_kok ty_h (ty_ex 6 6) 167 kc_285 = true := by decide +kernel
set_option maxRecDepth 10000000 in
theorem ck_286 : ty_kok ty_h (ty_ex 6 6) 167 kc_286 = true := by decide +kernel
set_option maxRecDepth 10000000 in
theorem ck_287 : ty_kok ty_h (ty_ex 6 6) 167 kc_287 = true := by decide +kernel
set_option maxRecDepth 10000000 in
theorem ck_288 : ty_kok ty_h (ty_ex 6 6) 167 kc_288 = true := by decide +kernel
set_option maxRecDepth 10000000 in
theorem ck_289 : ty_kok ty_h (ty_ex 6 6) 167 kc_289 = true := by decide +kernel
set_option maxRecDepth 10000000 in
theorem ck_290 : ty_kok ty_h (ty_ex 6 6) 167 kc_290 = true := by decide +kernel
set_option maxRecDepth 10000000 in
theorem ck_291 : ty_kok ty_h (ty_ex 6 6) 167 kc_291 = true := by decide +kernel
set_option maxRecDepth 10000000 in
theorem ck_292 : ty_kok ty_h (ty_ex 6 6) 167 kc_292 = true := by decide +kernel
set_option maxRecDepth 10000000 in
theorem ck_293 : ty_kok ty_h (ty_ex 6 6) 167 kc_293 = true := by decide +kernel
set_option maxRecDepth 10000000 in
theorem ck_294 : ty_kok ty_h (ty_ex 6 6) 181 kc_294 = true := by decide +kernel
set_option maxRecDepth 10000000 in
theorem ck_295 : ty_kok ty_h (ty_ex 6 6) 181 kc_295 = true := by decide +kernel
set_option maxRecDepth 10000000 in
theorem ck_296 : ty_kok ty_h (ty_ex 6 6) 181 kc_296 = true := by decide +kernel
set_option maxRecDepth 10000000 in
theorem ck_297 : ty_kok ty_h (ty_ex 6 6) 181 kc_297 = true := by decide +kernel
set_option maxRecDepth 10000000 in
theorem ck_298 : ty_kok ty_h (ty_ex 6 6) 181 kc_298 = true := by decide +kernel
set_option maxRecDepth 10000000 in
theorem ck_299 : ty_kok ty_h (ty_ex 6 6) 181 kc_299 = true := by decide +kernel
