/-! ===== the methods (written by wip/tools/checks.py) ===== -/
theorem gK_289 : gdK 289 = true := by decide +kernel
theorem gH_289 : gdH 289 = true := gH_of rfl (by decide +kernel)
theorem gK_290 : gdK 290 = true := by decide +kernel
theorem gH_290 : gdH 290 = true := gH_of rfl (by decide +kernel)
theorem gK_291 : gdK 291 = true := by decide +kernel
theorem gH_291 : gdH 291 = true := gH_of rfl (by decide +kernel)
theorem gK_292 : gdK 292 = true := by decide +kernel
theorem gH_292 : gdH 292 = true := gH_of rfl (by decide +kernel)
theorem gK_293 : gdK 293 = true := by decide +kernel
theorem gH_293 : gdH 293 = true := gH_of rfl (by decide +kernel)
theorem gK_294 : gdK 294 = true := by decide +kernel
theorem gH_294 : gdH 294 = true := gH_of rfl (by decide +kernel)
theorem gK_295 : gdK 295 = true := by decide +kernel
theorem gH_295 : gdH 295 = true := gH_of rfl (by decide +kernel)
theorem gK_296 : gdK 296 = true := by decide +kernel
theorem gH_296 : gdH 296 = true := gH_of rfl (by decide +kernel)
theorem gK_297 : gdK 297 = true := by decide +kernel
theorem gH_297 : gdH 297 = true := gH_of rfl (by decide +kernel)
theorem gK_298 : gdK 298 = true := by decide +kernel
theorem gH_298 : gdH 298 = true := gH_of rfl (by decide +kernel)
theorem gK_299 : gdK 299 = true := by decide +kernel
theorem gH_299 : gdH 299 = true := gH_of rfl (by decide +kernel)
theorem gK_300 : gdK 300 = true := by decide +kernel
theorem gH_300 : gdH 300 = true := gH_of rfl (by decide +kernel)
theorem gK_301 : gdK 301 = true := by decide +kernel
theorem gH_301 : gdH 301 = true := gH_of rfl (by decide +kernel)
theorem gK_302 : gdK 302 = true := by decide +kernel
theorem gH_302 : gdH 302 = true := gH_of rfl (by decide +kernel)
theorem gK_303 : gdK 303 = true := by decide +kernel
theorem gH_303 : gdH 303 = true := gH_of rfl (by decide +kernel)
theorem gK_304 : gdK 304 = true := by decide +kernel
theorem gH_304 : gdH 304 = true := gH_of rfl (by decide +kernel)
theorem gK_305 : gdK 305 = true := by decide +kernel
theorem gH_305 : gdH 305 = true := gH_of rfl (by decide +kernel)
theorem gK_306 : gdK 306 = true := by decide +kernel
theorem gH_306 : gdH 306 = true := gH_of rfl (by decide +kernel)
theorem gK_307 : gdK 307 = true := by decide +kernel
theorem gH_307 : gdH 307 = true := gH_of rfl (by decide +kernel)
theorem gK_308 : gdK 308 = true := by decide +kernel
theorem gH_308 : gdH 308 = true := gH_of rfl (by decide +kernel)
theorem gK_309 : gdK 309 = true := by decide +kernel
theorem gH_309 : gdH 309 = true := gH_of rfl (by decide +kernel)
theorem gK_310 : gdK 310 = true := by decide +kernel
theorem gH_310 : gdH 310 = true := gH_of rfl (by decide +kernel)
theorem gK_311 : gdK 311 = true := by decide +kernel
theorem gH_311 : gdH 311 = true := gH_of rfl (by decide +kernel)
theorem gK_312 : gdK 312 = true := by decide +kernel
theorem gH_312 : gdH 312 = true := gH_of rfl (by decide +kernel)
theorem gK_313 : gdK 313 = true := by decide +kernel
theorem gH_313 : gdH 313 = true := gH_of rfl (by decide +kernel)
theorem gK_314 : gdK 314 = true := by decide +kernel
theorem gH_314 : gdH 314 = true := gH_of rfl (by decide +kernel)
theorem gK_315 : gdK 315 = true := by decide +kernel
theorem gH_315 : gdH 315 = true := gH_of rfl (by decide +kernel)
theorem gK_316 : gdK 316 = true := by decide +kernel
theorem gH_316 : gdH 316 = true := gH_of rfl (by decide +kernel)
theorem gK_317 : gdK 317 = true := by decide +kernel
theorem gH_317 : gdH 317 = true := gH_of rfl (by decide +kernel)
theorem gK_318 : gdK 318 = true := by decide +kernel
theorem gH_318 : gdH 318 = true := gH_of rfl (by decide +kernel)
theorem gK_319 : gdK 319 = true := by decide +kernel
theorem gH_319 : gdH 319 = true := gH_of rfl (by decide +kernel)
theorem gK_320 : gdK 320 = true := by decide +kernel
theorem gH_320 : gdH 320 = true := gH_of rfl (by decide +kernel)
theorem gK_321 : gdK 321 = true := by decide +kernel
theorem gH_321 : gdH 321 = true := gH_of rfl (by decide +kernel)
theorem gK_322 : gdK 322 = true := by decide +kernel
theorem gH_322 : gdH 322 = true := gH_of rfl (by decide +kernel)
theorem gK_323 : gdK 323 = true := by decide +kernel
theorem gH_323 : gdH 323 = true := gH_of rfl (by decide +kernel)
theorem gK_324 : gdK 324 = true := by decide +kernel
theorem gH_324 : gdH 324 = true := gH_of rfl (by decide +kernel)
theorem gK_325 : gdK 325 = true := by decide +kernel
theorem gH_325 : gdH 325 = true := gH_of rfl (by decide +kernel)
theorem gK_326 : gdK 326 = true := by decide +kernel
theorem gH_326 : gdH 326 = true := gH_of rfl (by decide +kernel)
theorem gK_327 : gdK 327 = true := by decide +kernel
theorem gH_327 : gdH 327 = true := gH_of rfl (by decide +kernel)
theorem gK_328 : gdK 328 = true := by decide +kernel
theorem gH_328 : gdH 328 = true := gH_of rfl (by decide +kernel)
theorem gK_329 : gdK 329 = true := by decide +kernel
theorem gH_329 : gdH 329 = true := gH_of rfl (by decide +kernel)
theorem gK_330 : gdK 330 = true := by decide +kernel
theorem gH_330 : gdH 330 = true := gH_of rfl (by decide +kernel)
theorem gK_331 : gdK 331 = true := by decide +kernel
theorem gH_331 : gdH 331 = true := gH_of rfl (by decide +kernel)
theorem gK_333 : gdK 333 = true := by decide +kernel
theorem gH_333 : gdH 333 = true := gH_of rfl (by decide +kernel)
theorem gK_334 : gdK 334 = true := by decide +kernel
theorem gH_334 : gdH 334 = true := gH_of rfl (by decide +kernel)
theorem gK_335 : gdK 335 = true := by decide +kernel
theorem gH_335 : gdH 335 = true := gH_of rfl (by decide +kernel)
theorem gK_336 : gdK 336 = true := by decide +kernel
theorem gH_336 : gdH 336 = true := gH_of rfl (by decide +kernel)
theorem gK_337 : gdK 337 = true := by decide +kernel
theorem gH_337 : gdH 337 = true := gH_of rfl (by decide +kernel)
