/-! ===== the reference's methods behind_w the parser: all_w of them (written_w by wip/tools/asm.py) ===== -/
section ASM
variable {P : Int × Int} {g : Nat × Nat} {xs : Nat → Int} {L K : Nat} {ck : Nat → List Nat} {cW : Nat → Nat → Int}
theorem rd_223 : r_dp 223 = 1 := by decide +kernel
theorem rd_224 : r_dp 224 = 1 := by decide +kernel
theorem rd_225 : r_dp 225 = 1 := by decide +kernel
theorem rd_226 : r_dp 226 = 1 := by decide +kernel
theorem rd_227 : r_dp 227 = 1 := by decide +kernel
theorem rd_228 : r_dp 228 = 1 := by decide +kernel
theorem rd_229 : r_dp 229 = 1 := by decide +kernel
theorem rd_230 : r_dp 230 = 1 := by decide +kernel
theorem rd_231 : r_dp 231 = 1 := by decide +kernel
theorem rd_232 : r_dp 232 = 1 := by decide +kernel
theorem rd_233 : r_dp 233 = 2 := by decide +kernel
theorem rd_234 : r_dp 234 = 2 := by decide +kernel
theorem rd_235 : r_dp 235 = 2 := by decide +kernel
theorem rd_236 : r_dp 236 = 2 := by decide +kernel
theorem rd_237 : r_dp 237 = 2 := by decide +kernel
theorem rd_238 : r_dp 238 = 2 := by decide +kernel
theorem rd_239 : r_dp 239 = 3 := by decide +kernel
theorem rd_240 : r_dp 240 = 2 := by decide +kernel
theorem rd_242 : r_dp 242 = 2 := by decide +kernel
theorem rd_243 : r_dp 243 = 1 := by decide +kernel
theorem rd_244 : r_dp 244 = 2 := by decide +kernel
theorem rd_245 : r_dp 245 = 2 := by decide +kernel
theorem rd_246 : r_dp 246 = 1 := by decide +kernel
theorem rd_247 : r_dp 247 = 2 := by decide +kernel
theorem rd_249 : r_dp 249 = 4 := by decide +kernel
theorem rd_250 : r_dp 250 = 5 := by decide +kernel
theorem rd_251 : r_dp 251 = 1 := by decide +kernel
theorem rd_252 : r_dp 252 = 2 := by decide +kernel
theorem rd_253 : r_dp 253 = 3 := by decide +kernel
theorem rd_254 : r_dp 254 = 6 := by decide +kernel
theorem rd_255 : r_dp 255 = 2 := by decide +kernel
theorem rd_256 : r_dp 256 = 1 := by decide +kernel
theorem rd_257 : r_dp 257 = 2 := by decide +kernel
theorem rd_258 : r_dp 258 = 7 := by decide +kernel
theorem rd_259 : r_dp 259 = 8 := by decide +kernel
theorem rd_260 : r_dp 260 = 2 := by decide +kernel
theorem rd_261 : r_dp 261 = 3 := by decide +kernel
theorem rd_262 : r_dp 262 = 3 := by decide +kernel
theorem rd_263 : r_dp 263 = 4 := by decide +kernel
theorem rd_264 : r_dp 264 = 1 := by decide +kernel
theorem rd_265 : r_dp 265 = 4 := by decide +kernel
theorem rd_266 : r_dp 266 = 1 := by decide +kernel
theorem rd_267 : r_dp 267 = 3 := by decide +kernel
theorem rd_268 : r_dp 268 = 3 := by decide +kernel
theorem rd_271 : r_dp 271 = 8 := by decide +kernel
theorem rd_272 : r_dp 272 = 2 := by decide +kernel
theorem rd_273 : r_dp 273 = 9 := by decide +kernel
theorem rd_275 : r_dp 275 = 5 := by decide +kernel
theorem rd_276 : r_dp 276 = 6 := by decide +kernel
theorem rd_277 : r_dp 277 = 7 := by decide +kernel
theorem rd_278 : r_dp 278 = 7 := by decide +kernel
theorem rd_279 : r_dp 279 = 7 := by decide +kernel
theorem rd_280 : r_dp 280 = 7 := by decide +kernel
theorem rd_281 : r_dp 281 = 7 := by decide +kernel
theorem rd_282 : r_dp 282 = 8 := by decide +kernel
theorem rd_283 : r_dp 283 = 3 := by decide +kernel
theorem rd_284 : r_dp 284 = 4 := by decide +kernel
theorem rd_285 : r_dp 285 = 7 := by decide +kernel
theorem rd_286 : r_dp 286 = 8 := by decide +kernel
theorem rd_287 : r_dp 287 = 7 := by decide +kernel
theorem rd_288 : r_dp 288 = 8 := by decide +kernel
theorem rd_289 : r_dp 289 = 6 := by decide +kernel
theorem rd_290 : r_dp 290 = 1 := by decide +kernel
theorem rd_291 : r_dp 291 = 1 := by decide +kernel
theorem rd_292 : r_dp 292 = 3 := by decide +kernel
theorem rd_293 : r_dp 293 = 3 := by decide +kernel
theorem rd_294 : r_dp 294 = 8 := by decide +kernel
theorem rd_295 : r_dp 295 = 1 := by decide +kernel
theorem rd_296 : r_dp 296 = 1 := by decide +kernel
theorem rd_297 : r_dp 297 = 3 := by decide +kernel
theorem rd_298 : r_dp 298 = 2 := by decide +kernel
theorem rd_299 : r_dp 299 = 8 := by decide +kernel
theorem rd_300 : r_dp 300 = 8 := by decide +kernel
theorem rd_301 : r_dp 301 = 8 := by decide +kernel
theorem rd_302 : r_dp 302 = 9 := by decide +kernel
theorem rd_303 : r_dp 303 = 9 := by decide +kernel
theorem rd_304 : r_dp 304 = 3 := by decide +kernel
theorem rd_305 : r_dp 305 = 7 := by decide +kernel
theorem rd_306 : r_dp 306 = 8 := by decide +kernel
theorem rd_307 : r_dp 307 = 8 := by decide +kernel
theorem rd_308 : r_dp 308 = 7 := by decide +kernel
theorem rd_309 : r_dp 309 = 1 := by decide +kernel
theorem rd_310 : r_dp 310 = 9 := by decide +kernel
theorem rd_311 : r_dp 311 = 2 := by decide +kernel
theorem rd_312 : r_dp 312 = 3 := by decide +kernel
theorem rd_313 : r_dp 313 = 4 := by decide +kernel
theorem h_224 (hK2 : 20000000000 ≤ K) {n : Nat} (ih_w : ∀ m q, m ≤ n + 1 → r_dp q < m → TotR P (r_T 0) (RJ P) g (evF xs L ck K cW g_M m) q) : TotR P (r_T 0) (RJ P) g (evF xs L ck K cW g_M (n + 1 + 1)) 224 := by
  have hK_w : 4294967300 ≤ K := by omega
  have hJ := rj_js (P := P)
  exact t_224 (n := n + 1) hJ hK_w
theorem h_230 (hK2 : 20000000000 ≤ K) {n : Nat} (ih_w : ∀ m q, m ≤ n + 1 → r_dp q < m → TotR P (r_T 0) (RJ P) g (evF xs L ck K cW g_M m) q) : TotR P (r_T 0) (RJ P) g (evF xs L ck K cW g_M (n + 1 + 1)) 230 := by
  have hK_w : 4294967300 ≤ K := by omega
  have hJ := rj_js (P := P)
  exact t_230 (n := n + 1)
theorem h_232 (hK2 : 20000000000 ≤ K) {n : Nat} (ih_w : ∀ m q, m ≤ n + 1 → r_dp q < m → TotR P (r_T 0) (RJ P) g (evF xs L ck K cW g_M m) q) : TotR P (r_T 0) (RJ P) g (evF xs L ck K cW g_M (n + 1 + 1)) 232 := by
  have hK_w : 4294967300 ≤ K := by omega
  have hJ := rj_js (P := P)
  exact t_232 (n := n + 1)
theorem h_240 (hK2 : 20000000000 ≤ K) {n : Nat} (ih_w : ∀ m q, m ≤ n + 2 → r_dp q < m → TotR P (r_T 0) (RJ P) g (evF xs L ck K cW g_M m) q) : TotR P (r_T 0) (RJ P) g (evF xs L ck K cW g_M (n + 2 + 1)) 240 := by
  have hK_w : 4294967300 ≤ K := by omega
  have hJ := rj_js (P := P)
  exact t_240 (n := n + 2) hJ hK_w (ih_w (n + 2) 228 (by omega) (by rw [rd_228]; omega)) (ih_w (n + 2) 225 (by omega) (by rw [rd_225]; omega))
theorem h_242 (hK2 : 20000000000 ≤ K) {n : Nat} (ih_w : ∀ m q, m ≤ n + 2 → r_dp q < m → TotR P (r_T 0) (RJ P) g (evF xs L ck K cW g_M m) q) : TotR P (r_T 0) (RJ P) g (evF xs L ck K cW g_M (n + 2 + 1)) 242 := by
  have hK_w : 4294967300 ≤ K := by omega
  have hJ := rj_js (P := P)
  exact t_242 (n := n + 1) hJ hK_w
theorem h_244 (hK2 : 20000000000 ≤ K) {n : Nat} (ih_w : ∀ m q, m ≤ n + 2 → r_dp q < m → TotR P (r_T 0) (RJ P) g (evF xs L ck K cW g_M m) q) : TotR P (r_T 0) (RJ P) g (evF xs L ck K cW g_M (n + 2 + 1)) 244 := by
  have hK_w : 4294967300 ≤ K := by omega
  have hJ := rj_js (P := P)
  intro av h hQ hv
  rw [rp_244] at hv
  obtain ⟨x, b, m, p, rfl, hx, hb_w, hm_w, hp⟩ := il4 hv
  obtain rfl : x = 182 := hx
  obtain ⟨v, h', e1_w, e2_w, e3_w, e4_w, e5_w⟩ := (s_244 (n := n + 2) hK_w (ih_w (n + 2) 243 (by omega) (by rw [rd_243]; omega))) h b m p hQ hb_w hm_w hp.1 hp.2.1
  have p2_w := hp.2.1
  exact ⟨[v], h', e1_w, e2_w, e3_w, by rw [rr_244]; exact ⟨⟨e4_w, by omega, ⟨by omega, by omega⟩⟩, trivial⟩, fun _ => by rw [ru_244]; exact hv⟩
theorem h_245 (hK2 : 20000000000 ≤ K) {n : Nat} (ih_w : ∀ m q, m ≤ n + 2 → r_dp q < m → TotR P (r_T 0) (RJ P) g (evF xs L ck K cW g_M m) q) : TotR P (r_T 0) (RJ P) g (evF xs L ck K cW g_M (n + 2 + 1)) 245 := by
  have hK_w : 4294967300 ≤ K := by omega
  have hJ := rj_js (P := P)
  intro av h hQ hv
  rw [rp_245] at hv
  obtain ⟨x, b, m, p, rfl, hx, hb_w, hm_w, hp⟩ := il4 hv
  obtain rfl : x = 182 := hx
  obtain ⟨v, h', e1_w, e2_w, e3_w, e4_w⟩ := (s_245 (n := n + 2) hK_w (ih_w (n + 2) 243 (by omega) (by rw [rd_243]; omega)) (ih_w (n + 2) 225 (by omega) (by rw [rd_225]; omega))) h b m p hQ hb_w hm_w hp.1 hp.2.1
  have p1_w := hp.1
  exact ⟨[v], h', e1_w, e2_w, e3_w, by rw [rr_245]; exact ⟨⟨by omega, by omega, ⟨by omega, by omega⟩⟩, trivial⟩, fun _ => by rw [ru_245]; exact hv⟩
theorem h_247 (hK2 : 20000000000 ≤ K) {n : Nat} (ih_w : ∀ m q, m ≤ n + 2 → r_dp q < m → TotR P (r_T 0) (RJ P) g (evF xs L ck K cW g_M m) q) : TotR P (r_T 0) (RJ P) g (evF xs L ck K cW g_M (n + 2 + 1)) 247 := by
  have hK_w : 4294967300 ≤ K := by omega
  have hJ := rj_js (P := P)
  intro av h hQ hv
  rw [rp_247] at hv
  obtain ⟨x, c, p, t, e, rfl, hx, hc_w, hp, ht, he⟩ := il5 hv
  obtain rfl : x = 182 := hx
  obtain ⟨v, h', e1_w, e2_w, e3_w, e4_w, -⟩ := (s_247 (n := n + 2) hK_w (s_232 (n := n + 1))) h c p t e hQ hc_w hp.1 hp.2.1 ht.1 ht.2.1 he.1 he.2.1
  exact ⟨[v], h', e1_w, e2_w, e3_w, by rw [rr_247]; exact ⟨IV.top e4_w, trivial⟩, fun _ => by rw [ru_247]; exact hv⟩
theorem h_249 (hK2 : 20000000000 ≤ K) {n : Nat} (ih_w : ∀ m q, m ≤ n + 4 → r_dp q < m → TotR P (r_T 0) (RJ P) g (evF xs L ck K cW g_M m) q) : TotR P (r_T 0) (RJ P) g (evF xs L ck K cW g_M (n + 4 + 1)) 249 := by
  have hK_w : 4294967300 ≤ K := by omega
  have hJ := rj_js (P := P)
  exact t_249 (n := n + 4) (s_244 (n := n + 3) hK_w (ih_w (n + 3) 243 (by omega) (by rw [rd_243]; omega))) (s_245 (n := n + 3) hK_w (ih_w (n + 3) 243 (by omega) (by rw [rd_243]; omega)) (ih_w (n + 3) 225 (by omega) (by rw [rd_225]; omega))) (s_248 (n := n + 3) (ih_w (n + 3) 243 (by omega) (by rw [rd_243]; omega)) (ih_w (n + 3) 230 (by omega) (by rw [rd_230]; omega)) (ih_w (n + 3) 246 (by omega) (by rw [rd_246]; omega)) (s_247 (n := n + 2) hK_w (s_232 (n := n + 1)))) (ih_w (n + 4) 229 (by omega) (by rw [rd_229]; omega)) (ih_w (n + 4) 243 (by omega) (by rw [rd_243]; omega))
theorem h_251 (hK2 : 20000000000 ≤ K) {n : Nat} (ih_w : ∀ m q, m ≤ n + 1 → r_dp q < m → TotR P (r_T 0) (RJ P) g (evF xs L ck K cW g_M m) q) : TotR P (r_T 0) (RJ P) g (evF xs L ck K cW g_M (n + 1 + 1)) 251 := by
  have hK_w : 4294967300 ≤ K := by omega
  have hJ := rj_js (P := P)
  exact t_251 (n := n + 1) hJ hK2
theorem h_253 (hK2 : 20000000000 ≤ K) {n : Nat} (ih_w : ∀ m q, m ≤ n + 3 → r_dp q < m → TotR P (r_T 0) (RJ P) g (evF xs L ck K cW g_M m) q) : TotR P (r_T 0) (RJ P) g (evF xs L ck K cW g_M (n + 3 + 1)) 253 := by
  have hK_w : 4294967300 ≤ K := by omega
  have hJ := rj_js (P := P)
  exact t_253 (n := n + 3) (ih_w (n + 3) 231 (by omega) (by rw [rd_231]; omega)) (ih_w (n + 3) 252 (by omega) (by rw [rd_252]; omega)) (s_222 (n := n + 2) hK_w (ih_w (n + 2) 223 (by omega) (by rw [rd_223]; omega)))
theorem h_271 (hK2 : 20000000000 ≤ K) {n : Nat} (ih_w : ∀ m q, m ≤ n + 8 → r_dp q < m → TotR P (r_T 0) (RJ P) g (evF xs L ck K cW g_M m) q) : TotR P (r_T 0) (RJ P) g (evF xs L ck K cW g_M (n + 8 + 1)) 271 := by
  have hK_w : 4294967300 ≤ K := by omega
  have hJ := rj_js (P := P)
  exact t_271 (n := n + 8) hJ (s_242 (n := n + 6) hJ hK_w) (s_270 (n := n + 7) hJ hK_w (ih_w (n + 7) 225 (by omega) (by rw [rd_225]; omega)) (ih_w (n + 7) 227 (by omega) (by rw [rd_227]; omega)) (ih_w (n + 7) 228 (by omega) (by rw [rd_228]; omega)) (ih_w (n + 7) 254 (by omega) (by rw [rd_254]; omega)) (ih_w (n + 7) 257 (by omega) (by rw [rd_257]; omega)) (ih_w (n + 7) 256 (by omega) (by rw [rd_256]; omega)) (ih_w (n + 7) 230 (by omega) (by rw [rd_230]; omega)) (s_269 (n := n + 6) hJ hK_w))
theorem h_272 (hK2 : 20000000000 ≤ K) {n : Nat} (ih_w : ∀ m q, m ≤ n + 2 → r_dp q < m → TotR P (r_T 0) (RJ P) g (evF xs L ck K cW g_M m) q) : TotR P (r_T 0) (RJ P) g (evF xs L ck K cW g_M (n + 2 + 1)) 272 := by
  have hK_w : 4294967300 ≤ K := by omega
  have hJ := rj_js (P := P)
  exact t_272 (n := n + 2) hJ (s_224 (n := n + 1) hJ hK_w)
theorem h_273 (hK2 : 20000000000 ≤ K) {n : Nat} (ih_w : ∀ m q, m ≤ n + 9 → r_dp q < m → TotR P (r_T 0) (RJ P) g (evF xs L ck K cW g_M m) q) : TotR P (r_T 0) (RJ P) g (evF xs L ck K cW g_M (n + 9 + 1)) 273 := by
  have hK_w : 4294967300 ≤ K := by omega
  have hJ := rj_js (P := P)
  exact t_273 (n := n + 9) hK_w tot_198 (ih_w (n + 9) 240 (by omega) (by rw [rd_240]; omega)) (ih_w (n + 9) 264 (by omega) (by rw [rd_264]; omega)) (ih_w (n + 9) 266 (by omega) (by rw [rd_266]; omega)) (ih_w (n + 9) 259 (by omega) (by rw [rd_259]; omega))
theorem h_284 (hK2 : 20000000000 ≤ K) {n : Nat} (ih_w : ∀ m q, m ≤ n + 4 → r_dp q < m → TotR P (r_T 0) (RJ P) g (evF xs L ck K cW g_M m) q) : TotR P (r_T 0) (RJ P) g (evF xs L ck K cW g_M (n + 4 + 1)) 284 := by
  have hK_w : 4294967300 ≤ K := by omega
  have hJ := rj_js (P := P)
  exact t_284 (n := n + 4) hJ (ih_w (n + 4) 239 (by omega) (by rw [rd_239]; omega)) (s_244 (n := n + 3) hK_w (ih_w (n + 3) 243 (by omega) (by rw [rd_243]; omega))) (s_245 (n := n + 3) hK_w (ih_w (n + 3) 243 (by omega) (by rw [rd_243]; omega)) (ih_w (n + 3) 225 (by omega) (by rw [rd_225]; omega))) (s_248 (n := n + 3) (ih_w (n + 3) 243 (by omega) (by rw [rd_243]; omega)) (ih_w (n + 3) 230 (by omega) (by rw [rd_230]; omega)) (ih_w (n + 3) 246 (by omega) (by rw [rd_246]; omega)) (s_247 (n := n + 2) hK_w (s_232 (n := n + 1)))) (ih_w (n + 4) 229 (by omega) (by rw [rd_229]; omega)) (ih_w (n + 4) 243 (by omega) (by rw [rd_243]; omega))
theorem h_304 (hK2 : 20000000000 ≤ K) {n : Nat} (ih_w : ∀ m q, m ≤ n + 3 → r_dp q < m → TotR P (r_T 0) (RJ P) g (evF xs L ck K cW g_M m) q) : TotR P (r_T 0) (RJ P) g (evF xs L ck K cW g_M (n + 3 + 1)) 304 := by
  have hK_w : 4294967300 ≤ K := by omega
  have hJ := rj_js (P := P)
  exact t_304 (n := n + 3) hJ tot_198 (ih_w (n + 3) 236 (by omega) (by rw [rd_236]; omega))
theorem h_305 (hK2 : 20000000000 ≤ K) {n : Nat} (ih_w : ∀ m q, m ≤ n + 7 → r_dp q < m → TotR P (r_T 0) (RJ P) g (evF xs L ck K cW g_M m) q) : TotR P (r_T 0) (RJ P) g (evF xs L ck K cW g_M (n + 7 + 1)) 305 := by
  have hK_w : 4294967300 ≤ K := by omega
  have hJ := rj_js (P := P)
  exact t_305 (n := n + 7) hJ hK_w (ih_w (n + 7) 227 (by omega) (by rw [rd_227]; omega)) (ih_w (n + 7) 254 (by omega) (by rw [rd_254]; omega)) (ih_w (n + 7) 257 (by omega) (by rw [rd_257]; omega))
theorem h_309 (hK2 : 20000000000 ≤ K) {n : Nat} (ih_w : ∀ m q, m ≤ n + 1 → r_dp q < m → TotR P (r_T 0) (RJ P) g (evF xs L ck K cW g_M m) q) : TotR P (r_T 0) (RJ P) g (evF xs L ck K cW g_M (n + 1 + 1)) 309 := by
  have hK_w : 4294967300 ≤ K := by omega
  have hJ := rj_js (P := P)
  intro av h hQ hv
  rw [rp_309] at hv
  obtain ⟨x, m, rfl, hx, hm_w⟩ := il2 hv
  obtain rfl : x = 182 := hx
  obtain ⟨m0_w, m1_w, -⟩ := hm_w
  obtain ⟨v, h', e1_w, e2_w, e3_w, e4_w, e5_w⟩ := (s_309 (n := n + 1) hJ) h m hQ m0_w m1_w
  exact ⟨[v], h', e1_w, e2_w, e3_w, by rw [rr_309]; exact ⟨⟨e4_w, by omega, ⟨by omega, by omega⟩⟩, trivial⟩, fun _ => by rw [ru_309]; exact hv⟩
theorem h_310 (hK2 : 20000000000 ≤ K) {n : Nat} (ih_w : ∀ m q, m ≤ n + 9 → r_dp q < m → TotR P (r_T 0) (RJ P) g (evF xs L ck K cW g_M m) q) : TotR P (r_T 0) (RJ P) g (evF xs L ck K cW g_M (n + 9 + 1)) 310 := by
  have hK_w : 4294967300 ≤ K := by omega
  have hJ := rj_js (P := P)
  exact t_310 (n := n + 9) hJ hK_w tot_198 (tot_274 hJ) (s_225 (n := n + 8)) (ih_w (n + 9) 228 (by omega) (by rw [rd_228]; omega)) (ih_w (n + 9) 298 (by omega) (by rw [rd_298]; omega)) (s_309 (n := n + 8) hJ) (ih_w (n + 9) 264 (by omega) (by rw [rd_264]; omega)) (ih_w (n + 9) 259 (by omega) (by rw [rd_259]; omega)) (ih_w (n + 9) 285 (by omega) (by rw [rd_285]; omega)) (ih_w (n + 9) 287 (by omega) (by rw [rd_287]; omega))
theorem h_311 (hK2 : 20000000000 ≤ K) {n : Nat} (ih_w : ∀ m q, m ≤ n + 2 → r_dp q < m → TotR P (r_T 0) (RJ P) g (evF xs L ck K cW g_M m) q) : TotR P (r_T 0) (RJ P) g (evF xs L ck K cW g_M (n + 2 + 1)) 311 := by
  have hK_w : 4294967300 ≤ K := by omega
  have hJ := rj_js (P := P)
  exact t_311 (n := n + 2) hJ tot_198 (s_224 (n := n + 1) hJ hK_w)
theorem r_hand (hK2 : 20000000000 ≤ K) : ∀ n f, r_hd f = true → r_dp f < n + 1 → (∀ m q, m ≤ n → r_dp q < m → TotR P (r_T 0) (RJ P) g (evF xs L ck K cW g_M m) q) → TotR P (r_T 0) (RJ P) g (evF xs L ck K cW g_M (n + 1)) f := by
  intro n f hf hd_w ih_w
  unfold r_hd at hf
  obtain ⟨q, hq, e⟩ := List.any_eq_true.mp hf
  rw [Nat.beq_eq] at e
  subst e
  simp only [List.mem_cons, List.not_mem_nil, or_false] at hq
  rcases hq with rfl | rfl | rfl | rfl | rfl | rfl | rfl | rfl | rfl | rfl | rfl | rfl | rfl | rfl | rfl | rfl | rfl | rfl | rfl | rfl
  · obtain ⟨n, rfl⟩ : ∃ m, n = m + 1 := ⟨n - 1, by rw [rd_224] at hd_w; omega⟩
    exact h_224 hK2 ih_w
  · obtain ⟨n, rfl⟩ : ∃ m, n = m + 1 := ⟨n - 1, by rw [rd_230] at hd_w; omega⟩
    exact h_230 hK2 ih_w
  · obtain ⟨n, rfl⟩ : ∃ m, n = m + 1 := ⟨n - 1, by rw [rd_232] at hd_w; omega⟩
    exact h_232 hK2 ih_w
  · obtain ⟨n, rfl⟩ : ∃ m, n = m + 2 := ⟨n - 2, by rw [rd_240] at hd_w; omega⟩
    exact h_240 hK2 ih_w
  · obtain ⟨n, rfl⟩ : ∃ m, n = m + 2 := ⟨n - 2, by rw [rd_242] at hd_w; omega⟩
    exact h_242 hK2 ih_w
  · obtain ⟨n, rfl⟩ : ∃ m, n = m + 2 := ⟨n - 2, by rw [rd_244] at hd_w; omega⟩
    exact h_244 hK2 ih_w
  · obtain ⟨n, rfl⟩ : ∃ m, n = m + 2 := ⟨n - 2, by rw [rd_245] at hd_w; omega⟩
    exact h_245 hK2 ih_w
  · obtain ⟨n, rfl⟩ : ∃ m, n = m + 2 := ⟨n - 2, by rw [rd_247] at hd_w; omega⟩
    exact h_247 hK2 ih_w
  · obtain ⟨n, rfl⟩ : ∃ m, n = m + 4 := ⟨n - 4, by rw [rd_249] at hd_w; omega⟩
    exact h_249 hK2 ih_w
  · obtain ⟨n, rfl⟩ : ∃ m, n = m + 1 := ⟨n - 1, by rw [rd_251] at hd_w; omega⟩
    exact h_251 hK2 ih_w
  · obtain ⟨n, rfl⟩ : ∃ m, n = m + 3 := ⟨n - 3, by rw [rd_253] at hd_w; omega⟩
    exact h_253 hK2 ih_w
  · obtain ⟨n, rfl⟩ : ∃ m, n = m + 8 := ⟨n - 8, by rw [rd_271] at hd_w; omega⟩
    exact h_271 hK2 ih_w
  · obtain ⟨n, rfl⟩ : ∃ m, n = m + 2 := ⟨n - 2, by rw [rd_272] at hd_w; omega⟩
    exact h_272 hK2 ih_w
  · obtain ⟨n, rfl⟩ : ∃ m, n = m + 9 := ⟨n - 9, by rw [rd_273] at hd_w; omega⟩
    exact h_273 hK2 ih_w
  · obtain ⟨n, rfl⟩ : ∃ m, n = m + 4 := ⟨n - 4, by rw [rd_284] at hd_w; omega⟩
    exact h_284 hK2 ih_w
  · obtain ⟨n, rfl⟩ : ∃ m, n = m + 3 := ⟨n - 3, by rw [rd_304] at hd_w; omega⟩
    exact h_304 hK2 ih_w
  · obtain ⟨n, rfl⟩ : ∃ m, n = m + 7 := ⟨n - 7, by rw [rd_305] at hd_w; omega⟩
    exact h_305 hK2 ih_w
  · obtain ⟨n, rfl⟩ : ∃ m, n = m + 1 := ⟨n - 1, by rw [rd_309] at hd_w; omega⟩
    exact h_309 hK2 ih_w
  · obtain ⟨n, rfl⟩ : ∃ m, n = m + 9 := ⟨n - 9, by rw [rd_310] at hd_w; omega⟩
    exact h_310 hK2 ih_w
  · obtain ⟨n, rfl⟩ : ∃ m, n = m + 2 := ⟨n - 2, by rw [rd_311] at hd_w; omega⟩
    exact h_311 hK2 ih_w
/-- every method_w of the reference_w behind_w the parser ends_w, and keeps_w what is_w kept -/
theorem r_ref (hK2 : 20000000000 ≤ K) {n f : Nat} (hd_w : r_dp f < n) (hn : n < 99999) : TotR P (r_T 0) (RJ P) g (evF xs L ck K cW g_M n) f := r_all (by omega) rj_js (r_hand hK2) n n f (Nat.le_refl _) hd_w hn
end ASM
