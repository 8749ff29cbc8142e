/-! ===== the methods (written by wip/tools/checks.py) ===== -/
theorem gK_241 : gdK 241 = true := by decide +kernel
theorem gH_241 : gdH 241 = true := gH_of rfl (by decide +kernel)
theorem gK_242 : gdK 242 = true := by decide +kernel
theorem gH_242 : gdH 242 = true := gH_of rfl (by decide +kernel)
theorem gK_243 : gdK 243 = true := by decide +kernel
theorem gH_243 : gdH 243 = true := gH_of rfl (by decide +kernel)
theorem gK_244 : gdK 244 = true := by decide +kernel
theorem gH_244 : gdH 244 = true := gH_of rfl (by decide +kernel)
theorem gK_245 : gdK 245 = true := by decide +kernel
theorem gH_245 : gdH 245 = true := gH_of rfl (by decide +kernel)
theorem gK_246 : gdK 246 = true := by decide +kernel
theorem gH_246 : gdH 246 = true := gH_of rfl (by decide +kernel)
theorem gK_247 : gdK 247 = true := by decide +kernel
theorem gH_247 : gdH 247 = true := gH_of rfl (by decide +kernel)
theorem gK_248 : gdK 248 = true := by decide +kernel
theorem gH_248 : gdH 248 = true := gH_of rfl (by decide +kernel)
theorem gK_249 : gdK 249 = true := by decide +kernel
theorem gH_249 : gdH 249 = true := gH_of rfl (by decide +kernel)
theorem gK_250 : gdK 250 = true := by decide +kernel
theorem gH_250 : gdH 250 = true := gH_of rfl (by decide +kernel)
theorem gK_251 : gdK 251 = true := by decide +kernel
theorem gH_251 : gdH 251 = true := gH_of rfl (by decide +kernel)
theorem gK_252 : gdK 252 = true := by decide +kernel
theorem gH_252 : gdH 252 = true := gH_of rfl (by decide +kernel)
theorem gK_253 : gdK 253 = true := by decide +kernel
theorem gH_253 : gdH 253 = true := gH_of rfl (by decide +kernel)
theorem gK_254 : gdK 254 = true := by decide +kernel
theorem gH_254 : gdH 254 = true := gH_of rfl (by decide +kernel)
theorem gK_255 : gdK 255 = true := by decide +kernel
theorem gH_255 : gdH 255 = true := gH_of rfl (by decide +kernel)
theorem gK_256 : gdK 256 = true := by decide +kernel
theorem gH_256 : gdH 256 = true := gH_of rfl (by decide +kernel)
theorem gK_257 : gdK 257 = true := by decide +kernel
theorem gH_257 : gdH 257 = true := gH_of rfl (by decide +kernel)
theorem gK_258 : gdK 258 = true := by decide +kernel
theorem gH_258 : gdH 258 = true := gH_of rfl (by decide +kernel)
theorem gK_259 : gdK 259 = true := by decide +kernel
theorem gH_259 : gdH 259 = true := gH_of rfl (by decide +kernel)
theorem gK_260 : gdK 260 = true := by decide +kernel
theorem gH_260 : gdH 260 = true := gH_of rfl (by decide +kernel)
theorem gK_261 : gdK 261 = true := by decide +kernel
theorem gH_261 : gdH 261 = true := gH_of rfl (by decide +kernel)
theorem gK_262 : gdK 262 = true := by decide +kernel
theorem gH_262 : gdH 262 = true := gH_of rfl (by decide +kernel)
theorem gK_263 : gdK 263 = true := by decide +kernel
theorem gH_263 : gdH 263 = true := gH_of rfl (by decide +kernel)
theorem gK_264 : gdK 264 = true := by decide +kernel
theorem gH_264 : gdH 264 = true := gH_of rfl (by decide +kernel)
theorem gK_265 : gdK 265 = true := by decide +kernel
theorem gH_265 : gdH 265 = true := gH_of rfl (by decide +kernel)
theorem gK_266 : gdK 266 = true := by decide +kernel
theorem gH_266 : gdH 266 = true := gH_of rfl (by decide +kernel)
theorem gK_267 : gdK 267 = true := by decide +kernel
theorem gH_267 : gdH 267 = true := gH_of rfl (by decide +kernel)
theorem gK_268 : gdK 268 = true := by decide +kernel
theorem gH_268 : gdH 268 = true := gH_of rfl (by decide +kernel)
theorem gK_269 : gdK 269 = true := by decide +kernel
theorem gH_269 : gdH 269 = true := gH_of rfl (by decide +kernel)
theorem gK_270 : gdK 270 = true := by decide +kernel
theorem gH_270 : gdH 270 = true := gH_of rfl (by decide +kernel)
theorem gK_271 : gdK 271 = true := by decide +kernel
theorem gH_271 : gdH 271 = true := gH_of rfl (by decide +kernel)
theorem gK_272 : gdK 272 = true := by decide +kernel
theorem gH_272 : gdH 272 = true := gH_of rfl (by decide +kernel)
theorem gK_273 : gdK 273 = true := by decide +kernel
theorem gH_273 : gdH 273 = true := gH_of rfl (by decide +kernel)
theorem gK_274 : gdK 274 = true := by decide +kernel
theorem gH_274 : gdH 274 = true := gH_of rfl (by decide +kernel)
theorem gK_275 : gdK 275 = true := by decide +kernel
theorem gH_275 : gdH 275 = true := gH_of rfl (by decide +kernel)
theorem gK_276 : gdK 276 = true := by decide +kernel
theorem gH_276 : gdH 276 = true := gH_of rfl (by decide +kernel)
theorem gK_277 : gdK 277 = true := by decide +kernel
theorem gH_277 : gdH 277 = true := gH_of rfl (by decide +kernel)
theorem gK_278 : gdK 278 = true := by decide +kernel
theorem gH_278 : gdH 278 = true := gH_of rfl (by decide +kernel)
theorem gK_279 : gdK 279 = true := by decide +kernel
theorem gH_279 : gdH 279 = true := gH_of rfl (by decide +kernel)
theorem gK_280 : gdK 280 = true := by decide +kernel
theorem gH_280 : gdH 280 = true := gH_of rfl (by decide +kernel)
theorem gK_281 : gdK 281 = true := by decide +kernel
theorem gH_281 : gdH 281 = true := gH_of rfl (by decide +kernel)
theorem gK_282 : gdK 282 = true := by decide +kernel
theorem gH_282 : gdH 282 = true := gH_of rfl (by decide +kernel)
theorem gK_283 : gdK 283 = true := by decide +kernel
theorem gH_283 : gdH 283 = true := gH_of rfl (by decide +kernel)
theorem gK_284 : gdK 284 = true := by decide +kernel
theorem gH_284 : gdH 284 = true := gH_of rfl (by decide +kernel)
theorem gK_285 : gdK 285 = true := by decide +kernel
theorem gH_285 : gdH 285 = true := gH_of rfl (by decide +kernel)
theorem gK_286 : gdK 286 = true := by decide +kernel
theorem gH_286 : gdH 286 = true := gH_of rfl (by decide +kernel)
theorem gK_287 : gdK 287 = true := by decide +kernel
theorem gH_287 : gdH 287 = true := gH_of rfl (by decide +kernel)
theorem gK_288 : gdK 288 = true := by decide +kernel
theorem gH_288 : gdH 288 = true := gH_of rfl (by decide +kernel)
