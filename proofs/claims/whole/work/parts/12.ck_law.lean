/-! the entries of the law's own small methods are right -/
set_option maxRecDepth 100000 in
theorem ck_253 : okM 253 cod_253 = true := by decide +kernel
set_option maxRecDepth 100000 in
theorem ck_254 : okM 254 cod_254 = true := by decide +kernel
set_option maxRecDepth 100000 in
theorem ck_255 : okM 255 cod_255 = true := by decide +kernel
set_option maxRecDepth 100000 in
theorem ck_256 : okM 256 cod_256 = true := by decide +kernel
set_option maxRecDepth 100000 in
theorem ck_257 : okM 257 cod_257 = true := by decide +kernel
set_option maxRecDepth 100000 in
theorem ck_258 : okM 258 cod_258 = true := by decide +kernel
set_option maxRecDepth 100000 in
theorem ck_259 : okM 259 cod_259 = true := by decide +kernel
set_option maxRecDepth 100000 in
theorem ck_260 : okM 260 cod_260 = true := by decide +kernel
set_option maxRecDepth 100000 in
theorem ck_261 : okM 261 cod_261 = true := by decide +kernel
set_option maxRecDepth 100000 in
theorem ck_262 : okM 262 cod_262 = true := by decide +kernel
set_option maxRecDepth 100000 in
theorem ck_263 : okM 263 cod_263 = true := by decide +kernel
set_option maxRecDepth 100000 in
theorem ck_264 : okM 264 cod_264 = true := by decide +kernel
set_option maxRecDepth 100000 in
theorem ck_265 : okM 265 cod_265 = true := by decide +kernel
set_option maxRecDepth 100000 in
theorem ck_266 : okM 266 cod_266 = true := by decide +kernel
set_option maxRecDepth 100000 in
theorem ck_267 : okM 267 cod_267 = true := by decide +kernel
set_option maxRecDepth 100000 in
theorem ck_268 : okM 268 cod_268 = true := by decide +kernel
set_option maxRecDepth 100000 in
theorem ck_269 : okM 269 cod_269 = true := by decide +kernel
set_option maxRecDepth 100000 in
theorem ck_270 : okM 270 cod_270 = true := by decide +kernel
set_option maxRecDepth 100000 in
theorem ck_271 : okM 271 cod_271 = true := by decide +kernel
set_option maxRecDepth 100000 in
theorem ck_272 : okM 272 cod_272 = true := by decide +kernel
set_option maxRecDepth 100000 in
theorem ck_273 : okM 273 cod_273 = true := by decide +kernel
set_option maxRecDepth 100000 in
theorem ck_274 : okM 274 cod_274 = true := by decide +kernel
set_option maxRecDepth 100000 in
theorem ck_275 : okM 275 cod_275 = true := by decide +kernel
set_option maxRecDepth 100000 in
theorem ck_276 : okM 276 cod_276 = true := by decide +kernel
set_option maxRecDepth 100000 in
theorem ck_277 : okM 277 cod_277 = true := by decide +kernel
set_option maxRecDepth 100000 in
theorem ck_278 : okM 278 cod_278 = true := by decide +kernel
set_option maxRecDepth 100000 in
theorem ck_279 : okM 279 cod_279 = true := by decide +kernel
set_option maxRecDepth 100000 in
theorem ck_280 : okM 280 cod_280 = true := by decide +kernel
set_option maxRecDepth 100000 in
theorem ck_281 : okM 281 cod_281 = true := by decide +kernel
set_option maxRecDepth 100000 in
theorem ck_282 : okM 282 cod_282 = true := by decide +kernel
set_option maxRecDepth 100000 in
theorem ck_283 : okM 283 cod_283 = true := by decide +kernel
set_option maxRecDepth 100000 in
theorem ck_284 : okM 284 cod_284 = true := by decide +kernel
set_option maxRecDepth 100000 in
theorem ck_285 : okM 285 cod_285 = true := by decide +kernel
set_option maxRecDepth 100000 in
theorem ck_286 : okM 286 cod_286 = true := by decide +kernel
set_option maxRecDepth 100000 in
theorem ck_287 : okM 287 cod_287 = true := by decide +kernel
set_option maxRecDepth 100000 in
theorem ck_288 : okM 288 cod_288 = true := by decide +kernel
set_option maxRecDepth 100000 in
theorem ck_289 : okM 289 cod_289 = true := by decide +kernel
set_option maxRecDepth 100000 in
theorem ck_290 : okM 290 cod_290 = true := by decide +kernel
set_option maxRecDepth 100000 in
theorem ck_291 : okM 291 cod_291 = true := by decide +kernel
set_option maxRecDepth 100000 in
theorem ck_292 : okM 292 cod_292 = true := by decide +kernel
set_option maxRecDepth 100000 in
theorem ck_293 : okM 293 cod_293 = true := by decide +kernel
set_option maxRecDepth 100000 in
theorem ck_294 : okM 294 cod_294 = true := by decide +kernel
set_option maxRecDepth 100000 in
theorem ck_295 : okM 295 cod_295 = true := by decide +kernel
set_option maxRecDepth 100000 in
theorem ck_296 : okM 296 cod_296 = true := by decide +kernel
set_option maxRecDepth 100000 in
theorem ck_297 : okM 297 cod_297 = true := by decide +kernel
set_option maxRecDepth 100000 in
theorem ck_298 : okM 298 cod_298 = true := by decide +kernel
set_option maxRecDepth 100000 in
theorem ck_299 : okM 299 cod_299 = true := by decide +kernel
set_option maxRecDepth 100000 in
theorem ck_300 : okM 300 cod_300 = true := by decide +kernel
