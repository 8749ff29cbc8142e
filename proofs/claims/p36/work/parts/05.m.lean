section
/-! ===== the methods (written by wip/tools/checks.py) ===== -/
theorem gK_241 : gdK 241 = true := by decide +kernel
theorem gH_241 : gdH 241 = true := gH_of rfl (by decide +kernel)
theorem gK_242 : gdK 242 = true := by decide +kernel
theorem gH_242 : gdH 242 = true := gH_of rfl (by decide +kernel)
theorem gK_243 : gdK 243 = true := by decide +kernel
theorem gH_243 : gdH 243 = true := gH_of rfl (by decide +kernel)
theorem gK_244 : gdK 244 = true := by decide +kernel
theorem gH_244 : gdH 244 = true := gH_of rfl (by decide +kernel)
theorem gK_245 : gdK 245 = true := by decide +kernel
theorem gH_245 : gdH 245 = true := gH_of rfl (by decide +kernel)
theorem gK_246 : gdK 246 = true := by decide +kernel
theorem gH_246 : gdH 246 = true := gH_of rfl (by decide +kernel)
theorem gK_247 : gdK 247 = true := by decide +kernel
theorem gH_247 : gdH 247 = true := gH_of rfl (by decide +kernel)
theorem gK_248 : gdK 248 = true := by decide +kernel
theorem gH_248 : gdH 248 = true := gH_of rfl (by decide +kernel)
theorem gK_249 : gdK 249 = true := by decide +kernel
theorem gH_249 : gdH 249 = true := gH_of rfl (by decide +kernel)
theorem gK_250 : gdK 250 = true := by decide +kernel
theorem gH_250 : gdH 250 = true := gH_of rfl (by decide +kernel)
theorem gK_251 : gdK 251 = true := by decide +kernel
theorem gH_251 : gdH 251 = true := gH_of rfl (by decide +kernel)
theorem gK_252 : gdK 252 = true := by decide +kernel
theorem gH_252 : gdH 252 = true := gH_of rfl (by decide +kernel)
theorem gK_253 : gdK 253 = true := by decide +kernel
theorem gH_253 : gdH 253 = true := gH_of rfl (by decide +kernel)
theorem gK_254 : gdK 254 = true := by decide +kernel
theorem gH_254 : gdH 254 = true := gH_of rfl (by decide +kernel)
theorem gK_255 : gdK 255 = true := by decide +kernel
theorem gH_255 : gdH 255 = true := gH_of rfl (by decide +kernel)
theorem gK_256 : gdK 256 = true := by decide +kernel
theorem gH_256 : gdH 256 = true := gH_of rfl (by decide +kernel)
theorem gK_257 : gdK 257 = true := by decide +kernel
theorem gH_257 : gdH 257 = true := gH_of rfl (by decide +kernel)
theorem gK_258 : gdK 258 = true := by decide +kernel
theorem gH_258 : gdH 258 = true := gH_of rfl (by decide +kernel)
theorem gK_259 : gdK 259 = true := by decide +kernel
theorem gH_259 : gdH 259 = true := gH_of rfl (by decide +kernel)
theorem gK_260 : gdK 260 = true := by decide +kernel
theorem gH_260 : gdH 260 = true := gH_of rfl (by decide +kernel)
theorem gK_261 : gdK 261 = true := by decide +kernel
theorem gH_261 : gdH 261 = true := gH_of rfl (by decide +kernel)
theorem gK_262 : gdK 262 = true := by decide +kernel
theorem gH_262 : gdH 262 = true := gH_of rfl (by decide +kernel)
theorem gK_263 : gdK 263 = true := by decide +kernel
theorem gH_263 : gdH 263 = true := gH_of rfl (by decide +kernel)
theorem gK_264 : gdK 264 = true := by decide +kernel
theorem gH_264 : gdH 264 = true := gH_of rfl (by decide +kernel)
theorem gK_265 : gdK 265 = true := by decide +kernel
theorem gH_265 : gdH 265 = true := gH_of rfl (by decide +kernel)
theorem gK_266 : gdK 266 = true := by decide +kernel
theorem gH_266 : gdH 266 = true := gH_of rfl (by decide +kernel)
theorem gK_267 : gdK 267 = true := by decide +kernel
theorem gH_267 : gdH 267 = true := gH_of rfl (by decide +kernel)
theorem gK_268 : gdK 268 = true := by decide +kernel
theorem gH_268 : gdH 268 = true := gH_of rfl (by decide +kernel)
theorem gK_269 : gdK 269 = true := by decide +kernel
theorem gH_269 : gdH 269 = true := gH_of rfl (by decide +kernel)
theorem gK_270 : gdK 270 = true := by decide +kernel
theorem gH_270 : gdH 270 = true := gH_of rfl (by decide +kernel)
theorem gK_271 : gdK 271 = true := by decide +kernel
theorem gH_271 : gdH 271 = true := gH_of rfl (by decide +kernel)
theorem gK_272 : gdK 272 = true := by decide +kernel
theorem gH_272 : gdH 272 = true := gH_of rfl (by decide +kernel)
theorem gK_273 : gdK 273 = true := by decide +kernel
theorem gH_273 : gdH 273 = true := gH_of rfl (by decide +kernel)
theorem gK_274 : gdK 274 = true := by decide +kernel
theorem gH_274 : gdH 274 = true := gH_of rfl (by decide +kernel)
theorem gK_275 : gdK 275 = true := by decide +kernel
theorem gH_275 : gdH 275 = true := gH_of rfl (by decide +kernel)
theorem gK_276 : gdK 276 = true := by decide +kernel
theorem gH_276 : gdH 276 = true := gH_of rfl (by decide +kernel)
theorem gK_277 : gdK 277 = true := by decide +kernel
theorem gH_277 : gdH 277 = true := gH_of rfl (by decide +kernel)
theorem gK_278 : gdK 278 = true := by decide +kernel
theorem gH_278 : gdH 278 = true := gH_of rfl (by decide +kernel)
theorem gK_279 : gdK 279 = true := by decide +kernel
theorem gH_279 : gdH 279 = true := gH_of rfl (by decide +kernel)
theorem gK_280 : gdK 280 = true := by decide +kernel
theorem gH_280 : gdH 280 = true := gH_of rfl (by decide +kernel)
theorem gK_281 : gdK 281 = true := by decide +kernel
theorem gH_281 : gdH 281 = true := gH_of rfl (by decide +kernel)
theorem gK_282 : gdK 282 = true := by decide +kernel
theorem gH_282 : gdH 282 = true := gH_of rfl (by decide +kernel)
theorem gK_283 : gdK 283 = true := by decide +kernel
theorem gH_283 : gdH 283 = true := gH_of rfl (by decide +kernel)
theorem gK_284 : gdK 284 = true := by decide +kernel
theorem gH_284 : gdH 284 = true := gH_of rfl (by decide +kernel)
theorem gK_285 : gdK 285 = true := by decide +kernel
theorem gH_285 : gdH 285 = true := gH_of rfl (by decide +kernel)
theorem gK_286 : gdK 286 = true := by decide +kernel
theorem gH_286 : gdH 286 = true := gH_of rfl (by decide +kernel)
theorem gK_287 : gdK 287 = true := by decide +kernel
theorem gH_287 : gdH 287 = true := gH_of rfl (by decide +kernel)
theorem gK_288 : gdK 288 = true := by decide +kernel
theorem gH_288 : gdH 288 = true := gH_of rfl (by decide +kernel)
end
section
/-! ===== the methods (written by wip/tools/checks.py) ===== -/
theorem gK_289 : gdK 289 = true := by decide +kernel
theorem gH_289 : gdH 289 = true := gH_of rfl (by decide +kernel)
theorem gK_290 : gdK 290 = true := by decide +kernel
theorem gH_290 : gdH 290 = true := gH_of rfl (by decide +kernel)
theorem gK_291 : gdK 291 = true := by decide +kernel
theorem gH_291 : gdH 291 = true := gH_of rfl (by decide +kernel)
theorem gK_292 : gdK 292 = true := by decide +kernel
theorem gH_292 : gdH 292 = true := gH_of rfl (by decide +kernel)
theorem gK_293 : gdK 293 = true := by decide +kernel
theorem gH_293 : gdH 293 = true := gH_of rfl (by decide +kernel)
theorem gK_294 : gdK 294 = true := by decide +kernel
theorem gH_294 : gdH 294 = true := gH_of rfl (by decide +kernel)
theorem gK_295 : gdK 295 = true := by decide +kernel
theorem gH_295 : gdH 295 = true := gH_of rfl (by decide +kernel)
theorem gK_296 : gdK 296 = true := by decide +kernel
theorem gH_296 : gdH 296 = true := gH_of rfl (by decide +kernel)
theorem gK_297 : gdK 297 = true := by decide +kernel
theorem gH_297 : gdH 297 = true := gH_of rfl (by decide +kernel)
theorem gK_298 : gdK 298 = true := by decide +kernel
theorem gH_298 : gdH 298 = true := gH_of rfl (by decide +kernel)
theorem gK_299 : gdK 299 = true := by decide +kernel
theorem gH_299 : gdH 299 = true := gH_of rfl (by decide +kernel)
theorem gK_300 : gdK 300 = true := by decide +kernel
theorem gH_300 : gdH 300 = true := gH_of rfl (by decide +kernel)
theorem gK_301 : gdK 301 = true := by decide +kernel
theorem gH_301 : gdH 301 = true := gH_of rfl (by decide +kernel)
theorem gK_302 : gdK 302 = true := by decide +kernel
theorem gH_302 : gdH 302 = true := gH_of rfl (by decide +kernel)
theorem gK_303 : gdK 303 = true := by decide +kernel
theorem gH_303 : gdH 303 = true := gH_of rfl (by decide +kernel)
theorem gK_304 : gdK 304 = true := by decide +kernel
theorem gH_304 : gdH 304 = true := gH_of rfl (by decide +kernel)
theorem gK_305 : gdK 305 = true := by decide +kernel
theorem gH_305 : gdH 305 = true := gH_of rfl (by decide +kernel)
theorem gK_306 : gdK 306 = true := by decide +kernel
theorem gH_306 : gdH 306 = true := gH_of rfl (by decide +kernel)
theorem gK_307 : gdK 307 = true := by decide +kernel
theorem gH_307 : gdH 307 = true := gH_of rfl (by decide +kernel)
theorem gK_308 : gdK 308 = true := by decide +kernel
theorem gH_308 : gdH 308 = true := gH_of rfl (by decide +kernel)
theorem gK_309 : gdK 309 = true := by decide +kernel
theorem gH_309 : gdH 309 = true := gH_of rfl (by decide +kernel)
theorem gK_310 : gdK 310 = true := by decide +kernel
theorem gH_310 : gdH 310 = true := gH_of rfl (by decide +kernel)
theorem gK_311 : gdK 311 = true := by decide +kernel
theorem gH_311 : gdH 311 = true := gH_of rfl (by decide +kernel)
theorem gK_312 : gdK 312 = true := by decide +kernel
theorem gH_312 : gdH 312 = true := gH_of rfl (by decide +kernel)
theorem gK_313 : gdK 313 = true := by decide +kernel
theorem gH_313 : gdH 313 = true := gH_of rfl (by decide +kernel)
theorem gK_314 : gdK 314 = true := by decide +kernel
theorem gH_314 : gdH 314 = true := gH_of rfl (by decide +kernel)
theorem gK_315 : gdK 315 = true := by decide +kernel
theorem gH_315 : gdH 315 = true := gH_of rfl (by decide +kernel)
theorem gK_316 : gdK 316 = true := by decide +kernel
theorem gH_316 : gdH 316 = true := gH_of rfl (by decide +kernel)
theorem gK_317 : gdK 317 = true := by decide +kernel
theorem gH_317 : gdH 317 = true := gH_of rfl (by decide +kernel)
theorem gK_318 : gdK 318 = true := by decide +kernel
theorem gH_318 : gdH 318 = true := gH_of rfl (by decide +kernel)
theorem gK_319 : gdK 319 = true := by decide +kernel
theorem gH_319 : gdH 319 = true := gH_of rfl (by decide +kernel)
theorem gK_320 : gdK 320 = true := by decide +kernel
theorem gH_320 : gdH 320 = true := gH_of rfl (by decide +kernel)
theorem gK_321 : gdK 321 = true := by decide +kernel
theorem gH_321 : gdH 321 = true := gH_of rfl (by decide +kernel)
theorem gK_322 : gdK 322 = true := by decide +kernel
theorem gH_322 : gdH 322 = true := gH_of rfl (by decide +kernel)
theorem gK_323 : gdK 323 = true := by decide +kernel
theorem gH_323 : gdH 323 = true := gH_of rfl (by decide +kernel)
theorem gK_324 : gdK 324 = true := by decide +kernel
theorem gH_324 : gdH 324 = true := gH_of rfl (by decide +kernel)
theorem gK_325 : gdK 325 = true := by decide +kernel
theorem gH_325 : gdH 325 = true := gH_of rfl (by decide +kernel)
theorem gK_326 : gdK 326 = true := by decide +kernel
theorem gH_326 : gdH 326 = true := gH_of rfl (by decide +kernel)
theorem gK_327 : gdK 327 = true := by decide +kernel
theorem gH_327 : gdH 327 = true := gH_of rfl (by decide +kernel)
theorem gK_328 : gdK 328 = true := by decide +kernel
theorem gH_328 : gdH 328 = true := gH_of rfl (by decide +kernel)
theorem gK_329 : gdK 329 = true := by decide +kernel
theorem gH_329 : gdH 329 = true := gH_of rfl (by decide +kernel)
theorem gK_330 : gdK 330 = true := by decide +kernel
theorem gH_330 : gdH 330 = true := gH_of rfl (by decide +kernel)
theorem gK_331 : gdK 331 = true := by decide +kernel
theorem gH_331 : gdH 331 = true := gH_of rfl (by decide +kernel)
theorem gK_333 : gdK 333 = true := by decide +kernel
theorem gH_333 : gdH 333 = true := gH_of rfl (by decide +kernel)
theorem gK_334 : gdK 334 = true := by decide +kernel
theorem gH_334 : gdH 334 = true := gH_of rfl (by decide +kernel)
theorem gK_335 : gdK 335 = true := by decide +kernel
theorem gH_335 : gdH 335 = true := gH_of rfl (by decide +kernel)
theorem gK_336 : gdK 336 = true := by decide +kernel
theorem gH_336 : gdH 336 = true := gH_of rfl (by decide +kernel)
theorem gK_337 : gdK 337 = true := by decide +kernel
theorem gH_337 : gdH 337 = true := gH_of rfl (by decide +kernel)
end
section
/-! ===== what is to be shown of each method, out of the checks ===== -/
theorem gcL_all : ∀ c, gcL c = true
  | 0 => cL_0
  | 1 => cL_1
  | 2 => cL_2
  | 3 => cL_3
  | 4 => cL_4
  | 5 => cL_5
  | 6 => cL_6
  | 7 => cL_7
  | 8 => cL_8
  | 9 => cL_9
  | 10 => cL_10
  | 11 => cL_11
  | 12 => cL_12
  | 13 => cL_13
  | 14 => cL_14
  | _ + 15 => rfl
theorem gcP_all : ∀ c b, gcP c b = true
  | 0, false => cP_0f
  | 0, true => cP_0t
  | 1, false => cP_1f
  | 1, true => cP_1t
  | 2, false => cP_2f
  | 2, true => cP_2t
  | 3, false => cP_3f
  | 3, true => cP_3t
  | 4, false => cP_4f
  | 4, true => cP_4t
  | 5, false => cP_5f
  | 5, true => cP_5t
  | 6, false => cP_6f
  | 6, true => cP_6t
  | 7, false => cP_7f
  | 7, true => cP_7t
  | 8, false => cP_8f
  | 8, true => cP_8t
  | 9, false => cP_9f
  | 9, true => cP_9t
  | 10, false => cP_10f
  | 10, true => cP_10t
  | 11, false => cP_11f
  | 11, true => cP_11t
  | 12, false => cP_12f
  | 12, true => cP_12t
  | 13, false => cP_13f
  | 13, true => cP_13t
  | 14, false => cP_14f
  | 14, true => cP_14t
  | _ + 15, false => rfl
  | _ + 15, true => rfl
theorem g_CF : CF lw_nic g_cl g_ck := CF_of (pls := g_pl) g_cl g_ck fun ci C T N h => by
  match ci, h with
  | 0, h => cases h; exact cC_0
  | 1, h => cases h; exact cC_1
  | 2, h => cases h; exact cC_2
  | 3, h => cases h; exact cC_3
  | 4, h => cases h; exact cC_4
  | 5, h => cases h; exact cC_5
  | 6, h => cases h; exact cC_6
  | 7, h => cases h; exact cC_7
  | 8, h => cases h; exact cC_8
  | 9, h => cases h; exact cC_9
  | 10, h => cases h; exact cC_10
  | k + 11, h => cases h
section GDA
variable {adW : Nat → Nat} {aT : Nat}
def G_D (adW : Nat → Nat) (aT f : Nat) : Prop := GD lw_nic g_cl g_ck adW aT (g_Zs g_wn adW aT) g_Y g_CC g_RT g_M g_THR g_RZ g_LK g_LP g_DE (g_HND g_HN) f
theorem g_FA {f : Nat} (hK : gdK f = true) (hH : gdH f = true) : FA lw_nic g_cl g_ck adW aT (g_Zs g_wn adW aT) g_Y g_CC g_RT g_M g_THR g_RZ g_LK g_LP g_DE (g_HND g_HN) f := by
  simp only [gdH, Bool.and_eq_true, Bool.or_eq_true, decide_eq_true_eq] at hH
  obtain ⟨⟨h1, h2⟩, h3⟩ := hH
  obtain ⟨a1, a2, a3⟩ := okH_ok g_Y g_CC g_RT g_M g_RZ h1
  refine ⟨a1, ?_, f_dec_ok _, a2, a3, okK_ok g_M g_THR g_RZ g_HN hK⟩
  rw [h2]
  refine FO_of g_cl g_ck g_wn g_Y g_RT (m_P g_M) (own := g_cn (g_c f)) (ini := g_in f) (gcL_all (g_c f)) (gcP_all (g_c f) (g_in f)) (fun hi => ?_)
  rcases h3 with h3 | h3
  · rw [hi] at h3
    cases h3
  · exact h3
theorem g_nn {f : Nat} (h : g_HN f = none) : ∀ pc, g_HND g_HN f pc = none := fun pc => by
  unfold g_HND
  rw [h]
def gdA (f : Nat) : Bool := decide ((g_RT f).2 = []) && !g_THR f && decide (g_HN f = none)
theorem gd_a {f : Nat} (hK : gdK f = true) (hH : gdH f = true) (h : gdA f = true) : G_D adW aT f := by
  simp only [gdA, Bool.and_eq_true, decide_eq_true_eq, Bool.not_eq_true'] at h
  exact Or.inl ⟨g_FA hK hH, h.1.2, h.1.1, g_nn h.2⟩
noncomputable def gdB (f : Nat) : Bool := decide ((g_RT f).2 ≠ []) && !g_THR f && okX (g_cn (g_c f)) (g_DE f) (g_RT f).2 (g_HN f) (g_qs f) && (g_lt (g_c f)).flatten.all (fun e => decide (e.2.1.1 ≠ 6) || !g_THR e.2.1.2.1 || decide (e.2.1.2.2.1 = 0))
theorem gd_b {f : Nat} (hK : gdK f = true) (hH : gdH f = true) (h : gdB f = true) : G_D adW aT f := by
  simp only [gdB, Bool.and_eq_true, decide_eq_true_eq, Bool.not_eq_true'] at h
  obtain ⟨⟨⟨h1, h2⟩, h3⟩, h4⟩ := h
  have hH2 := hH
  simp only [gdH, Bool.and_eq_true, decide_eq_true_eq] at hH2
  refine Or.inr (Or.inl ⟨g_FA hK hH, h2, h1, ?_, virt_ok g_THR h4⟩)
  rw [hH2.1.2]
  exact okX_ok g_HN h3
def gx_at : List Cond := Cond.classLink "FeederShares" 197 nsee :: Cond.initialized nsee :: vx_at0 "FeederShares" 199 nsee nseeN
def gx_pl : List Nat := [42, 1015, 1016, 1017, 1018, 1026, 1027, 5132, 5137, 5138, 5139, 5140, 5141, 5142, 5143, 5144, 5145, 5146, 5147, 5148, 5149, 5150, 5151, 5152, 5153, 5154, 5155, 5156, 5157, 5158, 5159, 5160, 5161, 5162, 5163, 5164, 5165, 5166, 5167, 5168, 5169, 5170, 5171, 5172, 5173, 5174, 5175, 5176, 5177, 5178, 5179, 5180, 5181, 5182, 5183, 5184, 5185, 5187, 5188, 5189, 5190, 5191, 5192, 5193, 5194, 5195, 5196, 5197, 9053, 9066, 9067]
theorem gx_1 : gx_at.all (fun w => gx_pl.any (tk w)) = true := by decide +kernel
theorem gx_2 : gx_at.all vx_ot = true := by decide +kernel
theorem gx_3 : (g_lt 0).flatten.all (fun e => (decide (e.2.1.1 ≠ 8) || decide (e.1 = 197)) && (decide (e.2.1.1 ≠ 9) || decide (e.1 = 199))) = true := by decide +kernel
theorem gx_in {w : Cond} (h : w ∈ gx_at) : w ∈ lw_nic := by
  obtain ⟨p, -, hp⟩ := List.any_eq_true.mp (List.all_eq_true.mp gx_1 w h)
  exact tk_mem hp
theorem gx_LT : LT lw_nic "FeederShares" (q_lk (g_lt 0)) := by
  intro i1 z i2 z' e1 e2
  have h1 := List.all_eq_true.mp gx_3
  obtain ⟨_, m1⟩ := q_lk_mem e1
  obtain ⟨_, m2⟩ := q_lk_mem e2
  have b1 : i1 = 197 := by simpa using ((Bool.and_eq_true _ _).mp (h1 _ m1)).1
  have b2 : i2 = 199 := by simpa using ((Bool.and_eq_true _ _).mp (h1 _ m2)).2
  subst b1
  subst b2
  exact ⟨gx_in List.mem_cons_self, gx_in (List.mem_cons_of_mem _ List.mem_cons_self), fun w hw => gx_in (List.mem_cons_of_mem _ (List.mem_cons_of_mem _ hw)), fun w hw => List.all_eq_true.mp gx_2 w hw⟩
def gdC (f : Nat) : Bool := decide ((g_RT f).2 = []) && g_THR f && decide (g_HN f = none) && decide (g_c f = 0)
theorem gd_c {f : Nat} (hK : gdK f = true) (hH : gdH f = true) (h : gdC f = true) : G_D adW aT f := by
  simp only [gdC, Bool.and_eq_true, decide_eq_true_eq] at h
  obtain ⟨⟨⟨h1, h2⟩, h3⟩, h4⟩ := h
  have hH2 := hH
  simp only [gdH, Bool.and_eq_true, decide_eq_true_eq] at hH2
  refine Or.inr (Or.inr (Or.inl ⟨g_FA hK hH, h2, h1, ?_, g_nn h3⟩))
  rw [hH2.1.2]
  show LT lw_nic (g_cn (g_c f)) (q_lk (g_lt (g_c f)))
  rw [h4]
  exact gx_LT
theorem gd_d {f : Nat} (h1 : m_B g_M f = .var 0) (h2 : g_THR f = true) : G_D adW aT f := Or.inr (Or.inr (Or.inr ⟨h1, h2⟩))
theorem t_out {α : Type} {cs : List (List α)} {d : α} {f : Nat} (h : cs.length * 16 ≤ f) : t_at cs d f = d := by
  unfold t_at
  have h1 : cs.length ≤ f / 16 := by omega
  have e : cs.getD (f / 16) [] = [] := by rw [List.getD_eq_getElem?_getD, List.getElem?_eq_none h1]; rfl
  rw [e]
  rfl
theorem gd_z {f : Nat} (h : 352 ≤ f) : G_D adW aT f := by
  have e1 : g_M f = (0, 0, [], [], .var 0) := by
    unfold g_M
    exact t_out h
  have e2 : g_THR f = true := by
    unfold g_THR
    exact t_out h
  refine gd_d ?_ e2
  unfold m_B
  rw [e1]
theorem gD_0 : ∀ f, 0 ≤ f → f < 16 → G_D adW aT f := ab_two (b := 8) (ab_two (b := 4) (ab_two (b := 2) (ab_two (b := 1) (ab_one (gd_a gK_0 gH_0 (by decide +kernel))) (ab_one (gd_a gK_1 gH_1 (by decide +kernel)))) (ab_two (b := 3) (ab_one (gd_a gK_2 gH_2 (by decide +kernel))) (ab_one (gd_a gK_3 gH_3 (by decide +kernel))))) (ab_two (b := 6) (ab_two (b := 5) (ab_one (gd_a gK_4 gH_4 (by decide +kernel))) (ab_one (gd_a gK_5 gH_5 (by decide +kernel)))) (ab_two (b := 7) (ab_one (gd_a gK_6 gH_6 (by decide +kernel))) (ab_one (gd_a gK_7 gH_7 (by decide +kernel)))))) (ab_two (b := 12) (ab_two (b := 10) (ab_two (b := 9) (ab_one (gd_a gK_8 gH_8 (by decide +kernel))) (ab_one (gd_a gK_9 gH_9 (by decide +kernel)))) (ab_two (b := 11) (ab_one (gd_a gK_10 gH_10 (by decide +kernel))) (ab_one (gd_a gK_11 gH_11 (by decide +kernel))))) (ab_two (b := 14) (ab_two (b := 13) (ab_one (gd_a gK_12 gH_12 (by decide +kernel))) (ab_one (gd_c gK_13 gH_13 (by decide +kernel)))) (ab_two (b := 15) (ab_one (gd_c gK_14 gH_14 (by decide +kernel))) (ab_one (gd_c gK_15 gH_15 (by decide +kernel))))))
theorem gD_1 : ∀ f, 16 ≤ f → f < 32 → G_D adW aT f := ab_two (b := 24) (ab_two (b := 20) (ab_two (b := 18) (ab_two (b := 17) (ab_one (gd_c gK_16 gH_16 (by decide +kernel))) (ab_one (gd_c gK_17 gH_17 (by decide +kernel)))) (ab_two (b := 19) (ab_one (gd_c gK_18 gH_18 (by decide +kernel))) (ab_one (gd_c gK_19 gH_19 (by decide +kernel))))) (ab_two (b := 22) (ab_two (b := 21) (ab_one (gd_c gK_20 gH_20 (by decide +kernel))) (ab_one (gd_c gK_21 gH_21 (by decide +kernel)))) (ab_two (b := 23) (ab_one (gd_a gK_22 gH_22 (by decide +kernel))) (ab_one (gd_a gK_23 gH_23 (by decide +kernel)))))) (ab_two (b := 28) (ab_two (b := 26) (ab_two (b := 25) (ab_one (gd_c gK_24 gH_24 (by decide +kernel))) (ab_one (gd_a gK_25 gH_25 (by decide +kernel)))) (ab_two (b := 27) (ab_one (gd_a gK_26 gH_26 (by decide +kernel))) (ab_one (gd_c gK_27 gH_27 (by decide +kernel))))) (ab_two (b := 30) (ab_two (b := 29) (ab_one (gd_c gK_28 gH_28 (by decide +kernel))) (ab_one (gd_c gK_29 gH_29 (by decide +kernel)))) (ab_two (b := 31) (ab_one (gd_a gK_30 gH_30 (by decide +kernel))) (ab_one (gd_c gK_31 gH_31 (by decide +kernel))))))
theorem gD_2 : ∀ f, 32 ≤ f → f < 48 → G_D adW aT f := ab_two (b := 40) (ab_two (b := 36) (ab_two (b := 34) (ab_two (b := 33) (ab_one (gd_c gK_32 gH_32 (by decide +kernel))) (ab_one (gd_c gK_33 gH_33 (by decide +kernel)))) (ab_two (b := 35) (ab_one (gd_c gK_34 gH_34 (by decide +kernel))) (ab_one (gd_a gK_35 gH_35 (by decide +kernel))))) (ab_two (b := 38) (ab_two (b := 37) (ab_one (gd_a gK_36 gH_36 (by decide +kernel))) (ab_one (gd_a gK_37 gH_37 (by decide +kernel)))) (ab_two (b := 39) (ab_one (gd_a gK_38 gH_38 (by decide +kernel))) (ab_one (gd_a gK_39 gH_39 (by decide +kernel)))))) (ab_two (b := 44) (ab_two (b := 42) (ab_two (b := 41) (ab_one (gd_a gK_40 gH_40 (by decide +kernel))) (ab_one (gd_a gK_41 gH_41 (by decide +kernel)))) (ab_two (b := 43) (ab_one (gd_a gK_42 gH_42 (by decide +kernel))) (ab_one (gd_c gK_43 gH_43 (by decide +kernel))))) (ab_two (b := 46) (ab_two (b := 45) (ab_one (gd_a gK_44 gH_44 (by decide +kernel))) (ab_one (gd_a gK_45 gH_45 (by decide +kernel)))) (ab_two (b := 47) (ab_one (gd_a gK_46 gH_46 (by decide +kernel))) (ab_one (gd_a gK_47 gH_47 (by decide +kernel))))))
theorem gD_3 : ∀ f, 48 ≤ f → f < 64 → G_D adW aT f := ab_two (b := 56) (ab_two (b := 52) (ab_two (b := 50) (ab_two (b := 49) (ab_one (gd_a gK_48 gH_48 (by decide +kernel))) (ab_one (gd_a gK_49 gH_49 (by decide +kernel)))) (ab_two (b := 51) (ab_one (gd_a gK_50 gH_50 (by decide +kernel))) (ab_one (gd_a gK_51 gH_51 (by decide +kernel))))) (ab_two (b := 54) (ab_two (b := 53) (ab_one (gd_a gK_52 gH_52 (by decide +kernel))) (ab_one (gd_a gK_53 gH_53 (by decide +kernel)))) (ab_two (b := 55) (ab_one (gd_a gK_54 gH_54 (by decide +kernel))) (ab_one (gd_a gK_55 gH_55 (by decide +kernel)))))) (ab_two (b := 60) (ab_two (b := 58) (ab_two (b := 57) (ab_one (gd_a gK_56 gH_56 (by decide +kernel))) (ab_one (gd_a gK_57 gH_57 (by decide +kernel)))) (ab_two (b := 59) (ab_one (gd_a gK_58 gH_58 (by decide +kernel))) (ab_one (gd_a gK_59 gH_59 (by decide +kernel))))) (ab_two (b := 62) (ab_two (b := 61) (ab_one (gd_a gK_60 gH_60 (by decide +kernel))) (ab_one (gd_a gK_61 gH_61 (by decide +kernel)))) (ab_two (b := 63) (ab_one (gd_a gK_62 gH_62 (by decide +kernel))) (ab_one (gd_a gK_63 gH_63 (by decide +kernel))))))
theorem gD_4 : ∀ f, 64 ≤ f → f < 80 → G_D adW aT f := ab_two (b := 72) (ab_two (b := 68) (ab_two (b := 66) (ab_two (b := 65) (ab_one (gd_a gK_64 gH_64 (by decide +kernel))) (ab_one (gd_a gK_65 gH_65 (by decide +kernel)))) (ab_two (b := 67) (ab_one (gd_a gK_66 gH_66 (by decide +kernel))) (ab_one (gd_a gK_67 gH_67 (by decide +kernel))))) (ab_two (b := 70) (ab_two (b := 69) (ab_one (gd_a gK_68 gH_68 (by decide +kernel))) (ab_one (gd_a gK_69 gH_69 (by decide +kernel)))) (ab_two (b := 71) (ab_one (gd_a gK_70 gH_70 (by decide +kernel))) (ab_one (gd_a gK_71 gH_71 (by decide +kernel)))))) (ab_two (b := 76) (ab_two (b := 74) (ab_two (b := 73) (ab_one (gd_a gK_72 gH_72 (by decide +kernel))) (ab_one (gd_a gK_73 gH_73 (by decide +kernel)))) (ab_two (b := 75) (ab_one (gd_a gK_74 gH_74 (by decide +kernel))) (ab_one (gd_a gK_75 gH_75 (by decide +kernel))))) (ab_two (b := 78) (ab_two (b := 77) (ab_one (gd_a gK_76 gH_76 (by decide +kernel))) (ab_one (gd_a gK_77 gH_77 (by decide +kernel)))) (ab_two (b := 79) (ab_one (gd_a gK_78 gH_78 (by decide +kernel))) (ab_one (gd_a gK_79 gH_79 (by decide +kernel))))))
theorem gD_5 : ∀ f, 80 ≤ f → f < 96 → G_D adW aT f := ab_two (b := 88) (ab_two (b := 84) (ab_two (b := 82) (ab_two (b := 81) (ab_one (gd_a gK_80 gH_80 (by decide +kernel))) (ab_one (gd_a gK_81 gH_81 (by decide +kernel)))) (ab_two (b := 83) (ab_one (gd_a gK_82 gH_82 (by decide +kernel))) (ab_one (gd_a gK_83 gH_83 (by decide +kernel))))) (ab_two (b := 86) (ab_two (b := 85) (ab_one (gd_a gK_84 gH_84 (by decide +kernel))) (ab_one (gd_a gK_85 gH_85 (by decide +kernel)))) (ab_two (b := 87) (ab_one (gd_a gK_86 gH_86 (by decide +kernel))) (ab_one (gd_a gK_87 gH_87 (by decide +kernel)))))) (ab_two (b := 92) (ab_two (b := 90) (ab_two (b := 89) (ab_one (gd_a gK_88 gH_88 (by decide +kernel))) (ab_one (gd_a gK_89 gH_89 (by decide +kernel)))) (ab_two (b := 91) (ab_one (gd_a gK_90 gH_90 (by decide +kernel))) (ab_one (gd_a gK_91 gH_91 (by decide +kernel))))) (ab_two (b := 94) (ab_two (b := 93) (ab_one (gd_a gK_92 gH_92 (by decide +kernel))) (ab_one (gd_a gK_93 gH_93 (by decide +kernel)))) (ab_two (b := 95) (ab_one (gd_a gK_94 gH_94 (by decide +kernel))) (ab_one (gd_a gK_95 gH_95 (by decide +kernel))))))
theorem gD_6 : ∀ f, 96 ≤ f → f < 112 → G_D adW aT f := ab_two (b := 104) (ab_two (b := 100) (ab_two (b := 98) (ab_two (b := 97) (ab_one (gd_a gK_96 gH_96 (by decide +kernel))) (ab_one (gd_a gK_97 gH_97 (by decide +kernel)))) (ab_two (b := 99) (ab_one (gd_a gK_98 gH_98 (by decide +kernel))) (ab_one (gd_a gK_99 gH_99 (by decide +kernel))))) (ab_two (b := 102) (ab_two (b := 101) (ab_one (gd_a gK_100 gH_100 (by decide +kernel))) (ab_one (gd_a gK_101 gH_101 (by decide +kernel)))) (ab_two (b := 103) (ab_one (gd_a gK_102 gH_102 (by decide +kernel))) (ab_one (gd_a gK_103 gH_103 (by decide +kernel)))))) (ab_two (b := 108) (ab_two (b := 106) (ab_two (b := 105) (ab_one (gd_a gK_104 gH_104 (by decide +kernel))) (ab_one (gd_a gK_105 gH_105 (by decide +kernel)))) (ab_two (b := 107) (ab_one (gd_a gK_106 gH_106 (by decide +kernel))) (ab_one (gd_a gK_107 gH_107 (by decide +kernel))))) (ab_two (b := 110) (ab_two (b := 109) (ab_one (gd_a gK_108 gH_108 (by decide +kernel))) (ab_one (gd_a gK_109 gH_109 (by decide +kernel)))) (ab_two (b := 111) (ab_one (gd_a gK_110 gH_110 (by decide +kernel))) (ab_one (gd_a gK_111 gH_111 (by decide +kernel))))))
theorem gD_7 : ∀ f, 112 ≤ f → f < 128 → G_D adW aT f := ab_two (b := 120) (ab_two (b := 116) (ab_two (b := 114) (ab_two (b := 113) (ab_one (gd_a gK_112 gH_112 (by decide +kernel))) (ab_one (gd_a gK_113 gH_113 (by decide +kernel)))) (ab_two (b := 115) (ab_one (gd_a gK_114 gH_114 (by decide +kernel))) (ab_one (gd_a gK_115 gH_115 (by decide +kernel))))) (ab_two (b := 118) (ab_two (b := 117) (ab_one (gd_a gK_116 gH_116 (by decide +kernel))) (ab_one (gd_a gK_117 gH_117 (by decide +kernel)))) (ab_two (b := 119) (ab_one (gd_a gK_118 gH_118 (by decide +kernel))) (ab_one (gd_a gK_119 gH_119 (by decide +kernel)))))) (ab_two (b := 124) (ab_two (b := 122) (ab_two (b := 121) (ab_one (gd_a gK_120 gH_120 (by decide +kernel))) (ab_one (gd_a gK_121 gH_121 (by decide +kernel)))) (ab_two (b := 123) (ab_one (gd_a gK_122 gH_122 (by decide +kernel))) (ab_one (gd_a gK_123 gH_123 (by decide +kernel))))) (ab_two (b := 126) (ab_two (b := 125) (ab_one (gd_a gK_124 gH_124 (by decide +kernel))) (ab_one (gd_a gK_125 gH_125 (by decide +kernel)))) (ab_two (b := 127) (ab_one (gd_a gK_126 gH_126 (by decide +kernel))) (ab_one (gd_a gK_127 gH_127 (by decide +kernel))))))
theorem gD_8 : ∀ f, 128 ≤ f → f < 144 → G_D adW aT f := ab_two (b := 136) (ab_two (b := 132) (ab_two (b := 130) (ab_two (b := 129) (ab_one (gd_a gK_128 gH_128 (by decide +kernel))) (ab_one (gd_a gK_129 gH_129 (by decide +kernel)))) (ab_two (b := 131) (ab_one (gd_a gK_130 gH_130 (by decide +kernel))) (ab_one (gd_a gK_131 gH_131 (by decide +kernel))))) (ab_two (b := 134) (ab_two (b := 133) (ab_one (gd_a gK_132 gH_132 (by decide +kernel))) (ab_one (gd_a gK_133 gH_133 (by decide +kernel)))) (ab_two (b := 135) (ab_one (gd_a gK_134 gH_134 (by decide +kernel))) (ab_one (gd_a gK_135 gH_135 (by decide +kernel)))))) (ab_two (b := 140) (ab_two (b := 138) (ab_two (b := 137) (ab_one (gd_a gK_136 gH_136 (by decide +kernel))) (ab_one (gd_a gK_137 gH_137 (by decide +kernel)))) (ab_two (b := 139) (ab_one (gd_a gK_138 gH_138 (by decide +kernel))) (ab_one (gd_a gK_139 gH_139 (by decide +kernel))))) (ab_two (b := 142) (ab_two (b := 141) (ab_one (gd_a gK_140 gH_140 (by decide +kernel))) (ab_one (gd_a gK_141 gH_141 (by decide +kernel)))) (ab_two (b := 143) (ab_one (gd_a gK_142 gH_142 (by decide +kernel))) (ab_one (gd_a gK_143 gH_143 (by decide +kernel))))))
theorem gD_9 : ∀ f, 144 ≤ f → f < 160 → G_D adW aT f := ab_two (b := 152) (ab_two (b := 148) (ab_two (b := 146) (ab_two (b := 145) (ab_one (gd_a gK_144 gH_144 (by decide +kernel))) (ab_one (gd_a gK_145 gH_145 (by decide +kernel)))) (ab_two (b := 147) (ab_one (gd_a gK_146 gH_146 (by decide +kernel))) (ab_one (gd_a gK_147 gH_147 (by decide +kernel))))) (ab_two (b := 150) (ab_two (b := 149) (ab_one (gd_a gK_148 gH_148 (by decide +kernel))) (ab_one (gd_a gK_149 gH_149 (by decide +kernel)))) (ab_two (b := 151) (ab_one (gd_a gK_150 gH_150 (by decide +kernel))) (ab_one (gd_a gK_151 gH_151 (by decide +kernel)))))) (ab_two (b := 156) (ab_two (b := 154) (ab_two (b := 153) (ab_one (gd_a gK_152 gH_152 (by decide +kernel))) (ab_one (gd_a gK_153 gH_153 (by decide +kernel)))) (ab_two (b := 155) (ab_one (gd_a gK_154 gH_154 (by decide +kernel))) (ab_one (gd_a gK_155 gH_155 (by decide +kernel))))) (ab_two (b := 158) (ab_two (b := 157) (ab_one (gd_a gK_156 gH_156 (by decide +kernel))) (ab_one (gd_a gK_157 gH_157 (by decide +kernel)))) (ab_two (b := 159) (ab_one (gd_a gK_158 gH_158 (by decide +kernel))) (ab_one (gd_a gK_159 gH_159 (by decide +kernel))))))
theorem gD_10 : ∀ f, 160 ≤ f → f < 176 → G_D adW aT f := ab_two (b := 168) (ab_two (b := 164) (ab_two (b := 162) (ab_two (b := 161) (ab_one (gd_a gK_160 gH_160 (by decide +kernel))) (ab_one (gd_a gK_161 gH_161 (by decide +kernel)))) (ab_two (b := 163) (ab_one (gd_a gK_162 gH_162 (by decide +kernel))) (ab_one (gd_a gK_163 gH_163 (by decide +kernel))))) (ab_two (b := 166) (ab_two (b := 165) (ab_one (gd_a gK_164 gH_164 (by decide +kernel))) (ab_one (gd_a gK_165 gH_165 (by decide +kernel)))) (ab_two (b := 167) (ab_one (gd_a gK_166 gH_166 (by decide +kernel))) (ab_one (gd_a gK_167 gH_167 (by decide +kernel)))))) (ab_two (b := 172) (ab_two (b := 170) (ab_two (b := 169) (ab_one (gd_a gK_168 gH_168 (by decide +kernel))) (ab_one (gd_a gK_169 gH_169 (by decide +kernel)))) (ab_two (b := 171) (ab_one (gd_a gK_170 gH_170 (by decide +kernel))) (ab_one (gd_a gK_171 gH_171 (by decide +kernel))))) (ab_two (b := 174) (ab_two (b := 173) (ab_one (gd_a gK_172 gH_172 (by decide +kernel))) (ab_one (gd_a gK_173 gH_173 (by decide +kernel)))) (ab_two (b := 175) (ab_one (gd_a gK_174 gH_174 (by decide +kernel))) (ab_one (gd_a gK_175 gH_175 (by decide +kernel))))))
theorem gD_11 : ∀ f, 176 ≤ f → f < 192 → G_D adW aT f := ab_two (b := 184) (ab_two (b := 180) (ab_two (b := 178) (ab_two (b := 177) (ab_one (gd_a gK_176 gH_176 (by decide +kernel))) (ab_one (gd_a gK_177 gH_177 (by decide +kernel)))) (ab_two (b := 179) (ab_one (gd_a gK_178 gH_178 (by decide +kernel))) (ab_one (gd_a gK_179 gH_179 (by decide +kernel))))) (ab_two (b := 182) (ab_two (b := 181) (ab_one (gd_a gK_180 gH_180 (by decide +kernel))) (ab_one (gd_a gK_181 gH_181 (by decide +kernel)))) (ab_two (b := 183) (ab_one (gd_d rfl rfl)) (ab_one (gd_a gK_183 gH_183 (by decide +kernel)))))) (ab_two (b := 188) (ab_two (b := 186) (ab_two (b := 185) (ab_one (gd_a gK_184 gH_184 (by decide +kernel))) (ab_one (gd_a gK_185 gH_185 (by decide +kernel)))) (ab_two (b := 187) (ab_one (gd_a gK_186 gH_186 (by decide +kernel))) (ab_one (gd_a gK_187 gH_187 (by decide +kernel))))) (ab_two (b := 190) (ab_two (b := 189) (ab_one (gd_a gK_188 gH_188 (by decide +kernel))) (ab_one (gd_a gK_189 gH_189 (by decide +kernel)))) (ab_two (b := 191) (ab_one (gd_a gK_190 gH_190 (by decide +kernel))) (ab_one (gd_a gK_191 gH_191 (by decide +kernel))))))
theorem gD_12 : ∀ f, 192 ≤ f → f < 208 → G_D adW aT f := ab_two (b := 200) (ab_two (b := 196) (ab_two (b := 194) (ab_two (b := 193) (ab_one (gd_a gK_192 gH_192 (by decide +kernel))) (ab_one (gd_a gK_193 gH_193 (by decide +kernel)))) (ab_two (b := 195) (ab_one (gd_a gK_194 gH_194 (by decide +kernel))) (ab_one (gd_a gK_195 gH_195 (by decide +kernel))))) (ab_two (b := 198) (ab_two (b := 197) (ab_one (gd_a gK_196 gH_196 (by decide +kernel))) (ab_one (gd_a gK_197 gH_197 (by decide +kernel)))) (ab_two (b := 199) (ab_one (gd_a gK_198 gH_198 (by decide +kernel))) (ab_one (gd_a gK_199 gH_199 (by decide +kernel)))))) (ab_two (b := 204) (ab_two (b := 202) (ab_two (b := 201) (ab_one (gd_a gK_200 gH_200 (by decide +kernel))) (ab_one (gd_a gK_201 gH_201 (by decide +kernel)))) (ab_two (b := 203) (ab_one (gd_a gK_202 gH_202 (by decide +kernel))) (ab_one (gd_a gK_203 gH_203 (by decide +kernel))))) (ab_two (b := 206) (ab_two (b := 205) (ab_one (gd_a gK_204 gH_204 (by decide +kernel))) (ab_one (gd_a gK_205 gH_205 (by decide +kernel)))) (ab_two (b := 207) (ab_one (gd_a gK_206 gH_206 (by decide +kernel))) (ab_one (gd_a gK_207 gH_207 (by decide +kernel))))))
theorem gD_13 : ∀ f, 208 ≤ f → f < 224 → G_D adW aT f := ab_two (b := 216) (ab_two (b := 212) (ab_two (b := 210) (ab_two (b := 209) (ab_one (gd_a gK_208 gH_208 (by decide +kernel))) (ab_one (gd_a gK_209 gH_209 (by decide +kernel)))) (ab_two (b := 211) (ab_one (gd_a gK_210 gH_210 (by decide +kernel))) (ab_one (gd_a gK_211 gH_211 (by decide +kernel))))) (ab_two (b := 214) (ab_two (b := 213) (ab_one (gd_a gK_212 gH_212 (by decide +kernel))) (ab_one (gd_a gK_213 gH_213 (by decide +kernel)))) (ab_two (b := 215) (ab_one (gd_a gK_214 gH_214 (by decide +kernel))) (ab_one (gd_a gK_215 gH_215 (by decide +kernel)))))) (ab_two (b := 220) (ab_two (b := 218) (ab_two (b := 217) (ab_one (gd_a gK_216 gH_216 (by decide +kernel))) (ab_one (gd_a gK_217 gH_217 (by decide +kernel)))) (ab_two (b := 219) (ab_one (gd_a gK_218 gH_218 (by decide +kernel))) (ab_one (gd_a gK_219 gH_219 (by decide +kernel))))) (ab_two (b := 222) (ab_two (b := 221) (ab_one (gd_a gK_220 gH_220 (by decide +kernel))) (ab_one (gd_a gK_221 gH_221 (by decide +kernel)))) (ab_two (b := 223) (ab_one (gd_a gK_222 gH_222 (by decide +kernel))) (ab_one (gd_a gK_223 gH_223 (by decide +kernel))))))
theorem gD_14 : ∀ f, 224 ≤ f → f < 240 → G_D adW aT f := ab_two (b := 232) (ab_two (b := 228) (ab_two (b := 226) (ab_two (b := 225) (ab_one (gd_a gK_224 gH_224 (by decide +kernel))) (ab_one (gd_a gK_225 gH_225 (by decide +kernel)))) (ab_two (b := 227) (ab_one (gd_a gK_226 gH_226 (by decide +kernel))) (ab_one (gd_a gK_227 gH_227 (by decide +kernel))))) (ab_two (b := 230) (ab_two (b := 229) (ab_one (gd_a gK_228 gH_228 (by decide +kernel))) (ab_one (gd_a gK_229 gH_229 (by decide +kernel)))) (ab_two (b := 231) (ab_one (gd_a gK_230 gH_230 (by decide +kernel))) (ab_one (gd_a gK_231 gH_231 (by decide +kernel)))))) (ab_two (b := 236) (ab_two (b := 234) (ab_two (b := 233) (ab_one (gd_a gK_232 gH_232 (by decide +kernel))) (ab_one (gd_a gK_233 gH_233 (by decide +kernel)))) (ab_two (b := 235) (ab_one (gd_a gK_234 gH_234 (by decide +kernel))) (ab_one (gd_a gK_235 gH_235 (by decide +kernel))))) (ab_two (b := 238) (ab_two (b := 237) (ab_one (gd_a gK_236 gH_236 (by decide +kernel))) (ab_one (gd_a gK_237 gH_237 (by decide +kernel)))) (ab_two (b := 239) (ab_one (gd_a gK_238 gH_238 (by decide +kernel))) (ab_one (gd_a gK_239 gH_239 (by decide +kernel))))))
theorem gD_15 : ∀ f, 240 ≤ f → f < 256 → G_D adW aT f := ab_two (b := 248) (ab_two (b := 244) (ab_two (b := 242) (ab_two (b := 241) (ab_one (gd_a gK_240 gH_240 (by decide +kernel))) (ab_one (gd_a gK_241 gH_241 (by decide +kernel)))) (ab_two (b := 243) (ab_one (gd_a gK_242 gH_242 (by decide +kernel))) (ab_one (gd_a gK_243 gH_243 (by decide +kernel))))) (ab_two (b := 246) (ab_two (b := 245) (ab_one (gd_a gK_244 gH_244 (by decide +kernel))) (ab_one (gd_a gK_245 gH_245 (by decide +kernel)))) (ab_two (b := 247) (ab_one (gd_a gK_246 gH_246 (by decide +kernel))) (ab_one (gd_a gK_247 gH_247 (by decide +kernel)))))) (ab_two (b := 252) (ab_two (b := 250) (ab_two (b := 249) (ab_one (gd_a gK_248 gH_248 (by decide +kernel))) (ab_one (gd_a gK_249 gH_249 (by decide +kernel)))) (ab_two (b := 251) (ab_one (gd_a gK_250 gH_250 (by decide +kernel))) (ab_one (gd_a gK_251 gH_251 (by decide +kernel))))) (ab_two (b := 254) (ab_two (b := 253) (ab_one (gd_a gK_252 gH_252 (by decide +kernel))) (ab_one (gd_a gK_253 gH_253 (by decide +kernel)))) (ab_two (b := 255) (ab_one (gd_a gK_254 gH_254 (by decide +kernel))) (ab_one (gd_a gK_255 gH_255 (by decide +kernel))))))
theorem gD_16 : ∀ f, 256 ≤ f → f < 272 → G_D adW aT f := ab_two (b := 264) (ab_two (b := 260) (ab_two (b := 258) (ab_two (b := 257) (ab_one (gd_a gK_256 gH_256 (by decide +kernel))) (ab_one (gd_a gK_257 gH_257 (by decide +kernel)))) (ab_two (b := 259) (ab_one (gd_a gK_258 gH_258 (by decide +kernel))) (ab_one (gd_a gK_259 gH_259 (by decide +kernel))))) (ab_two (b := 262) (ab_two (b := 261) (ab_one (gd_a gK_260 gH_260 (by decide +kernel))) (ab_one (gd_a gK_261 gH_261 (by decide +kernel)))) (ab_two (b := 263) (ab_one (gd_a gK_262 gH_262 (by decide +kernel))) (ab_one (gd_a gK_263 gH_263 (by decide +kernel)))))) (ab_two (b := 268) (ab_two (b := 266) (ab_two (b := 265) (ab_one (gd_a gK_264 gH_264 (by decide +kernel))) (ab_one (gd_a gK_265 gH_265 (by decide +kernel)))) (ab_two (b := 267) (ab_one (gd_a gK_266 gH_266 (by decide +kernel))) (ab_one (gd_a gK_267 gH_267 (by decide +kernel))))) (ab_two (b := 270) (ab_two (b := 269) (ab_one (gd_a gK_268 gH_268 (by decide +kernel))) (ab_one (gd_a gK_269 gH_269 (by decide +kernel)))) (ab_two (b := 271) (ab_one (gd_a gK_270 gH_270 (by decide +kernel))) (ab_one (gd_a gK_271 gH_271 (by decide +kernel))))))
theorem gD_17 : ∀ f, 272 ≤ f → f < 288 → G_D adW aT f := ab_two (b := 280) (ab_two (b := 276) (ab_two (b := 274) (ab_two (b := 273) (ab_one (gd_a gK_272 gH_272 (by decide +kernel))) (ab_one (gd_a gK_273 gH_273 (by decide +kernel)))) (ab_two (b := 275) (ab_one (gd_a gK_274 gH_274 (by decide +kernel))) (ab_one (gd_a gK_275 gH_275 (by decide +kernel))))) (ab_two (b := 278) (ab_two (b := 277) (ab_one (gd_a gK_276 gH_276 (by decide +kernel))) (ab_one (gd_a gK_277 gH_277 (by decide +kernel)))) (ab_two (b := 279) (ab_one (gd_a gK_278 gH_278 (by decide +kernel))) (ab_one (gd_a gK_279 gH_279 (by decide +kernel)))))) (ab_two (b := 284) (ab_two (b := 282) (ab_two (b := 281) (ab_one (gd_a gK_280 gH_280 (by decide +kernel))) (ab_one (gd_a gK_281 gH_281 (by decide +kernel)))) (ab_two (b := 283) (ab_one (gd_a gK_282 gH_282 (by decide +kernel))) (ab_one (gd_a gK_283 gH_283 (by decide +kernel))))) (ab_two (b := 286) (ab_two (b := 285) (ab_one (gd_a gK_284 gH_284 (by decide +kernel))) (ab_one (gd_a gK_285 gH_285 (by decide +kernel)))) (ab_two (b := 287) (ab_one (gd_a gK_286 gH_286 (by decide +kernel))) (ab_one (gd_a gK_287 gH_287 (by decide +kernel))))))
theorem gD_18 : ∀ f, 288 ≤ f → f < 304 → G_D adW aT f := ab_two (b := 296) (ab_two (b := 292) (ab_two (b := 290) (ab_two (b := 289) (ab_one (gd_a gK_288 gH_288 (by decide +kernel))) (ab_one (gd_a gK_289 gH_289 (by decide +kernel)))) (ab_two (b := 291) (ab_one (gd_a gK_290 gH_290 (by decide +kernel))) (ab_one (gd_a gK_291 gH_291 (by decide +kernel))))) (ab_two (b := 294) (ab_two (b := 293) (ab_one (gd_a gK_292 gH_292 (by decide +kernel))) (ab_one (gd_a gK_293 gH_293 (by decide +kernel)))) (ab_two (b := 295) (ab_one (gd_a gK_294 gH_294 (by decide +kernel))) (ab_one (gd_a gK_295 gH_295 (by decide +kernel)))))) (ab_two (b := 300) (ab_two (b := 298) (ab_two (b := 297) (ab_one (gd_a gK_296 gH_296 (by decide +kernel))) (ab_one (gd_a gK_297 gH_297 (by decide +kernel)))) (ab_two (b := 299) (ab_one (gd_a gK_298 gH_298 (by decide +kernel))) (ab_one (gd_a gK_299 gH_299 (by decide +kernel))))) (ab_two (b := 302) (ab_two (b := 301) (ab_one (gd_a gK_300 gH_300 (by decide +kernel))) (ab_one (gd_a gK_301 gH_301 (by decide +kernel)))) (ab_two (b := 303) (ab_one (gd_a gK_302 gH_302 (by decide +kernel))) (ab_one (gd_a gK_303 gH_303 (by decide +kernel))))))
theorem gD_19 : ∀ f, 304 ≤ f → f < 320 → G_D adW aT f := ab_two (b := 312) (ab_two (b := 308) (ab_two (b := 306) (ab_two (b := 305) (ab_one (gd_a gK_304 gH_304 (by decide +kernel))) (ab_one (gd_a gK_305 gH_305 (by decide +kernel)))) (ab_two (b := 307) (ab_one (gd_a gK_306 gH_306 (by decide +kernel))) (ab_one (gd_a gK_307 gH_307 (by decide +kernel))))) (ab_two (b := 310) (ab_two (b := 309) (ab_one (gd_a gK_308 gH_308 (by decide +kernel))) (ab_one (gd_a gK_309 gH_309 (by decide +kernel)))) (ab_two (b := 311) (ab_one (gd_a gK_310 gH_310 (by decide +kernel))) (ab_one (gd_a gK_311 gH_311 (by decide +kernel)))))) (ab_two (b := 316) (ab_two (b := 314) (ab_two (b := 313) (ab_one (gd_a gK_312 gH_312 (by decide +kernel))) (ab_one (gd_a gK_313 gH_313 (by decide +kernel)))) (ab_two (b := 315) (ab_one (gd_b gK_314 gH_314 (by decide +kernel))) (ab_one (gd_b gK_315 gH_315 (by decide +kernel))))) (ab_two (b := 318) (ab_two (b := 317) (ab_one (gd_b gK_316 gH_316 (by decide +kernel))) (ab_one (gd_b gK_317 gH_317 (by decide +kernel)))) (ab_two (b := 319) (ab_one (gd_b gK_318 gH_318 (by decide +kernel))) (ab_one (gd_b gK_319 gH_319 (by decide +kernel))))))
theorem gD_20 : ∀ f, 320 ≤ f → f < 336 → G_D adW aT f := ab_two (b := 328) (ab_two (b := 324) (ab_two (b := 322) (ab_two (b := 321) (ab_one (gd_b gK_320 gH_320 (by decide +kernel))) (ab_one (gd_b gK_321 gH_321 (by decide +kernel)))) (ab_two (b := 323) (ab_one (gd_b gK_322 gH_322 (by decide +kernel))) (ab_one (gd_b gK_323 gH_323 (by decide +kernel))))) (ab_two (b := 326) (ab_two (b := 325) (ab_one (gd_b gK_324 gH_324 (by decide +kernel))) (ab_one (gd_b gK_325 gH_325 (by decide +kernel)))) (ab_two (b := 327) (ab_one (gd_b gK_326 gH_326 (by decide +kernel))) (ab_one (gd_b gK_327 gH_327 (by decide +kernel)))))) (ab_two (b := 332) (ab_two (b := 330) (ab_two (b := 329) (ab_one (gd_b gK_328 gH_328 (by decide +kernel))) (ab_one (gd_b gK_329 gH_329 (by decide +kernel)))) (ab_two (b := 331) (ab_one (gd_b gK_330 gH_330 (by decide +kernel))) (ab_one (gd_b gK_331 gH_331 (by decide +kernel))))) (ab_two (b := 334) (ab_two (b := 333) (ab_one (gd_d rfl rfl)) (ab_one (gd_a gK_333 gH_333 (by decide +kernel)))) (ab_two (b := 335) (ab_one (gd_a gK_334 gH_334 (by decide +kernel))) (ab_one (gd_a gK_335 gH_335 (by decide +kernel))))))
theorem gD_21 : ∀ f, 336 ≤ f → f < 352 → G_D adW aT f := ab_two (b := 344) (ab_two (b := 340) (ab_two (b := 338) (ab_two (b := 337) (ab_one (gd_a gK_336 gH_336 (by decide +kernel))) (ab_one (gd_a gK_337 gH_337 (by decide +kernel)))) (ab_two (b := 339) (ab_one (gd_d rfl rfl)) (ab_one (gd_d rfl rfl)))) (ab_two (b := 342) (ab_two (b := 341) (ab_one (gd_d rfl rfl)) (ab_one (gd_d rfl rfl))) (ab_two (b := 343) (ab_one (gd_d rfl rfl)) (ab_one (gd_d rfl rfl))))) (ab_two (b := 348) (ab_two (b := 346) (ab_two (b := 345) (ab_one (gd_d rfl rfl)) (ab_one (gd_d rfl rfl))) (ab_two (b := 347) (ab_one (gd_d rfl rfl)) (ab_one (gd_d rfl rfl)))) (ab_two (b := 350) (ab_two (b := 349) (ab_one (gd_d rfl rfl)) (ab_one (gd_d rfl rfl))) (ab_two (b := 351) (ab_one (gd_d rfl rfl)) (ab_one (gd_d rfl rfl)))))
theorem g_GD : ∀ f, G_D adW aT f := fun f => by
  by_cases h : f < 352
  · exact (ab_two (b := 176) (ab_two (b := 80) (ab_two (b := 32) (ab_two (b := 16) (gD_0) (gD_1)) (ab_two (b := 48) (gD_2) (ab_two (b := 64) (gD_3) (gD_4)))) (ab_two (b := 128) (ab_two (b := 96) (gD_5) (ab_two (b := 112) (gD_6) (gD_7))) (ab_two (b := 144) (gD_8) (ab_two (b := 160) (gD_9) (gD_10))))) (ab_two (b := 256) (ab_two (b := 208) (ab_two (b := 192) (gD_11) (gD_12)) (ab_two (b := 224) (gD_13) (ab_two (b := 240) (gD_14) (gD_15)))) (ab_two (b := 304) (ab_two (b := 272) (gD_16) (ab_two (b := 288) (gD_17) (gD_18))) (ab_two (b := 320) (gD_19) (ab_two (b := 336) (gD_20) (gD_21))))) : ∀ f, 0 ≤ f → f < 352 → G_D adW aT f) f (Nat.zero_le f) h
  · exact gd_z (by omega)
end GDA
end
section
/-! ===== the world at the law's entry (written by wip/tools/world.py) ===== -/
def nflat : List Cond := flatC (Jvm.Cond.and given_1 narrow_1)
def wnm : List String := ["SLOTS", "FEEDER", "CLASS", "LOSS", "PROFILE", "SUPPLIER", "METER", "WITH", "SMEARS", "READ", "MOVE", "TOTAL", "RUN", "INTERVAL", "REGISTER", "FLAT", "EXPORT", "NOT", "AND", "OR", "LOAD", "SLOT", "MANY", "OTHER"]
def wst (i : Nat) : Term := .static "FeederShares$Word" (wnm.getD i "") "LFeederShares$Word;"
def wT : Term := .static "FeederShares" "WORDS" "[LFeederShares$Word;"
def g_cW : Nat → Nat → Int := fun k i => match k with
  | 0 => ([20332179, 206737586, 3540595, 409203, 17799783813, 675937658034, 13815986, 763528, 651331155, 594980, 442053, 21483564, 19118, 324946974764, 624088961202, 208948, 193478228, 14836, 1476, 498, 408612, 635380, 427481, 0] : List Int).getD i 0
  | _ => ([1, 1, 1, 1, 1, 1, 1, 1, 1, 1, 1, 1, 1, 1, 1, 1, 1, 1, 1, 1, 0, 0, 0, 0] : List Int).getD i 0
def nx_ex : List Nat := [37, 42, 48, 55, 63, 72, 82, 147, 163, 303, 327, 352, 378, 93, 105, 118, 132, 180, 258, 280, 198, 217, 237, 33]
def nx_el : List Nat := [9, 10, 11, 12, 13, 14, 15, 16, 17, 18, 19, 20, 21, 22, 23, 24, 25, 26, 27, 28, 29, 30, 31, 32]
def nx_cd : List Nat := [39, 44, 50, 57, 65, 74, 84, 149, 165, 305, 329, 354, 380, 95, 107, 120, 134, 182, 260, 282, 200, 219, 239, 35]
def nx_kp : List Nat := [40, 45, 51, 58, 66, 75, 85, 150, 166, 306, 330, 355, 381, 96, 108, 121, 135, 183, 261, 283, 201, 220, 240, 36]
def nx_ls : List Nat := [3014, 3041, 3056, 3095, 3101, 3113, 3123, 3145, 3156, 4029, 4031, 4033, 4035, 3132, 3134, 3136, 3138, 3172, 3188, 3190, 3174, 3177, 3179, 3012]
def nx_ne : List (List Nat) := [[0, 47, 53, 60, 68, 77, 87, 152, 168, 308, 332, 357, 383, 98, 110, 123, 137, 185, 263, 285, 203, 222, 242, 41],
  [47, 0, 54, 61, 69, 78, 88, 153, 169, 309, 333, 358, 384, 99, 111, 124, 138, 186, 264, 286, 204, 223, 243, 46],
  [53, 54, 0, 62, 70, 79, 89, 154, 170, 310, 334, 359, 385, 100, 112, 125, 139, 187, 265, 287, 205, 224, 244, 52],
  [60, 61, 62, 0, 71, 80, 90, 155, 171, 311, 335, 360, 386, 101, 113, 126, 140, 188, 266, 288, 206, 225, 245, 59],
  [68, 69, 70, 71, 0, 81, 91, 156, 172, 312, 336, 361, 387, 102, 114, 127, 141, 189, 267, 289, 207, 226, 246, 67],
  [77, 78, 79, 80, 81, 0, 92, 157, 173, 313, 337, 362, 388, 103, 115, 128, 142, 190, 268, 290, 208, 227, 247, 76],
  [87, 88, 89, 90, 91, 92, 0, 158, 174, 314, 338, 363, 389, 104, 116, 129, 143, 191, 269, 291, 209, 228, 248, 86],
  [152, 153, 154, 155, 156, 157, 158, 0, 179, 319, 343, 368, 394, 159, 160, 161, 162, 196, 274, 296, 214, 233, 253, 151],
  [168, 169, 170, 171, 172, 173, 174, 179, 0, 320, 344, 369, 395, 175, 176, 177, 178, 197, 275, 297, 215, 234, 254, 167],
  [308, 309, 310, 311, 312, 313, 314, 319, 320, 0, 351, 376, 402, 315, 316, 317, 318, 321, 325, 326, 322, 323, 324, 307],
  [332, 333, 334, 335, 336, 337, 338, 343, 344, 351, 0, 377, 403, 339, 340, 341, 342, 345, 349, 350, 346, 347, 348, 331],
  [357, 358, 359, 360, 361, 362, 363, 368, 369, 376, 377, 0, 404, 364, 365, 366, 367, 370, 374, 375, 371, 372, 373, 356],
  [383, 384, 385, 386, 387, 388, 389, 394, 395, 402, 403, 404, 0, 390, 391, 392, 393, 396, 400, 401, 397, 398, 399, 382],
  [98, 99, 100, 101, 102, 103, 104, 159, 175, 315, 339, 364, 390, 0, 117, 130, 144, 192, 270, 292, 210, 229, 249, 97],
  [110, 111, 112, 113, 114, 115, 116, 160, 176, 316, 340, 365, 391, 117, 0, 131, 145, 193, 271, 293, 211, 230, 250, 109],
  [123, 124, 125, 126, 127, 128, 129, 161, 177, 317, 341, 366, 392, 130, 131, 0, 146, 194, 272, 294, 212, 231, 251, 122],
  [137, 138, 139, 140, 141, 142, 143, 162, 178, 318, 342, 367, 393, 144, 145, 146, 0, 195, 273, 295, 213, 232, 252, 136],
  [185, 186, 187, 188, 189, 190, 191, 196, 197, 321, 345, 370, 396, 192, 193, 194, 195, 0, 276, 298, 216, 235, 255, 184],
  [263, 264, 265, 266, 267, 268, 269, 274, 275, 325, 349, 374, 400, 270, 271, 272, 273, 276, 0, 302, 277, 278, 279, 262],
  [285, 286, 287, 288, 289, 290, 291, 296, 297, 326, 350, 375, 401, 292, 293, 294, 295, 298, 302, 0, 299, 300, 301, 284],
  [203, 204, 205, 206, 207, 208, 209, 214, 215, 322, 346, 371, 397, 210, 211, 212, 213, 216, 277, 299, 0, 236, 256, 202],
  [222, 223, 224, 225, 226, 227, 228, 233, 234, 323, 347, 372, 398, 229, 230, 231, 232, 235, 278, 300, 236, 0, 257, 221],
  [242, 243, 244, 245, 246, 247, 248, 253, 254, 324, 348, 373, 399, 249, 250, 251, 252, 255, 279, 301, 256, 257, 0, 241],
  [41, 46, 52, 59, 67, 76, 86, 151, 167, 307, 331, 356, 382, 97, 109, 122, 136, 184, 262, 284, 202, 221, 241, 0]]
theorem nx_1 : ∀ i, i < 24 → nflat[nx_ex.getD i 0]? = some (.exactly (wst i) "FeederShares$Word") := by decide +kernel
theorem nx_2 : ∀ i, i < 24 → nflat[nx_el.getD i 0]? = some (.eq (.elem wT (.int (Int32.ofNat i))) (wst i)) := by decide +kernel
theorem nx_3 : ∀ i, i < 24 → nflat[nx_cd.getD i 0]? = some (.eq (.field (wst i) "FeederShares$Word" "code" "J") (.long (Int64.ofInt (g_cW 0 i)))) := by decide +kernel
theorem nx_4 : ∀ i, i < 24 → nflat[nx_kp.getD i 0]? = some (.eq (.field (wst i) "FeederShares$Word" "kept" "Z") (.int (Int32.ofInt (g_cW 1 i)))) := by decide +kernel
theorem nx_5 : ∀ i, i < 24 → ∀ j, j < 24 → i ≠ j → nflat[(nx_ne.getD i []).getD j 0]? = some (.not (.eq (wst i) (wst j))) ∨ nflat[(nx_ne.getD i []).getD j 0]? = some (.not (.eq (wst j) (wst i))) := by decide +kernel
theorem nx_6 : ∀ i, i < 24 → tw (.laysStatic "FeederShares$Word" (wnm.getD i "") "LFeederShares$Word;") (nx_ls.getD i 0) = true := by decide +kernel
theorem nx_7 : nflat[6]? = some (.arrayOf wT (.object "FeederShares$Word")) := by decide +kernel
theorem nx_8 : nflat[7]? = some (.eq (.length wT) (.int (Int32.ofNat 24))) := by decide +kernel
theorem nx_9 : nflat[405]? = some (.isRef (.static Bundle.tN "UNASSIGNED_STACK" Bundle.steD)) := by decide +kernel
theorem nx_10 : nflat[406]? = some (.isRef (.static Bundle.tN "SUPPRESSED_SENTINEL" Bundle.listD)) := by decide +kernel
theorem nt_1 : Cond.initialized "FeederShares$Word" ∈ lw_tbl := tw_mem (p := 1013) (by decide +kernel)
theorem nt_2 : Cond.initialized "FeederShares" ∈ lw_tbl := tw_mem (p := 1001) (by decide +kernel)
theorem nt_3 : Cond.initialized Bundle.tN ∈ lw_tbl := tw_mem (p := 1015) (by decide +kernel)
theorem nt_4 : Cond.laysStatic "FeederShares" "WORDS" "[LFeederShares$Word;" ∈ lw_tbl := tw_mem (p := 3010) (by decide +kernel)
theorem nt_5 : Cond.laysStatic Bundle.tN "UNASSIGNED_STACK" Bundle.steD ∈ lw_tbl := tw_mem (p := 5164) (by decide +kernel)
theorem nt_6 : Cond.laysStatic Bundle.tN "SUPPRESSED_SENTINEL" Bundle.listD ∈ lw_tbl := tw_mem (p := 5166) (by decide +kernel)
theorem nt_7 : Cond.arrayClass .int ∈ lw_tbl := tw_mem (p := 1078) (by decide +kernel)
theorem nt_8 : Cond.arrayClass .long ∈ lw_tbl := tw_mem (p := 1143) (by decide +kernel)
theorem nt_9 : Cond.arrayClass .byte ∈ lw_tbl := tw_mem (p := 1067) (by decide +kernel)
theorem nt_10 : Cond.arrayClass .boolean ∈ lw_tbl := tw_mem (p := 7037) (by decide +kernel)
theorem nt_ins : ∀ (k : Nat) (q : vw_C), g_cl[k]? = some q → Cond.instantiable q.1 q.2.2 ∈ lw_tbl
  | 0, _, h => by cases h; exact tw_mem (p := 1021) (by decide +kernel)
  | 1, _, h => by cases h; exact tw_mem (p := 1117) (by decide +kernel)
  | 2, _, h => by cases h; exact tw_mem (p := 2002) (by decide +kernel)
  | 3, _, h => by cases h; exact tw_mem (p := 1212) (by decide +kernel)
  | 4, _, h => by cases h; exact tw_mem (p := 2058) (by decide +kernel)
  | 5, _, h => by cases h; exact tw_mem (p := 1109) (by decide +kernel)
  | 6, _, h => by cases h; exact tw_mem (p := 1029) (by decide +kernel)
  | 7, _, h => by cases h; exact tw_mem (p := 1069) (by decide +kernel)
  | 8, _, h => by cases h; exact tw_mem (p := 2074) (by decide +kernel)
  | 9, _, h => by cases h; exact tw_mem (p := 1035) (by decide +kernel)
  | 10, _, h => by cases h; exact tw_mem (p := 6136) (by decide +kernel)
  | k + 11, _, h => by cases h
theorem nt_cW : ∀ k, k < 24 → InL (g_cW 0 k) ∧ InI (g_cW 1 k) := by
  unfold InL InI
  decide +kernel
theorem g_world {s : State} {b L : Nat} {xs : Nat → Int32} (hts : ∀ w ∈ lw_tbl, w.before #[Value.ref b] s = true) (hX : va_X b L xs s s.heap) (hbl : b < s.heap.size) (hL : L < 2147483648) (hgv : (Jvm.Cond.and given_1 narrow_1).before #[Value.ref b] s = true) :
    ∃ (D : va_G) (cA : Nat → ClassId) (adW : Nat → Nat) (aT : Nat), va_K D g_cl (w_tys cA) s ∧ SF (g_Zs g_wn adW aT) adW aT b g_cW (fun j => (xs j).toInt) L (fun q => s.heap.size ≤ q) s s.heap ∧ ∀ i j : Nat, i < 24 → j < 24 → adW i = adW j → i = j := by
  have hN : ∀ (i : Nat) (w : Cond), nflat[i]? = some w → w.before #[Value.ref b] s = true := fun i w h => flat_of_before _ hgv _ (List.mem_of_getElem? h)
  have hA : ∀ a : Nat, a < s.heap.size → ¬ (fun q : Nat => s.heap.size ≤ q) a := fun a h => Nat.not_le.mpr h
  obtain ⟨adW, hEn, hev⟩ := va_Enof2 (args := #[Value.ref b]) (s := s) (E := "FeederShares$Word") (d := "LFeederShares$Word;") (nm := wnm) (F := []) (A := fun q => s.heap.size ≤ q)
    (fun i hi => hts _ (tw_mem (nx_6 i hi))) (hts _ nt_1) (fun i hi => hN _ _ (nx_1 i hi)) (fun q hq => absurd hq List.not_mem_nil) (fun i j hi hj hij => (nx_5 i hi j hj hij).imp (hN _ _) (hN _ _)) hA
  obtain ⟨aT, hT1, hT2⟩ := va_Tof (args := #[Value.ref b]) (s := s) (tm := wT) (ty := .object "FeederShares$Word") (N := 24) (f := fun j => .ref (adW j)) (A := fun q => s.heap.size ≤ q) (by decide) (hN _ _ nx_7) (va_eqt (hN _ _ nx_8)) (fun j hj => va_eqv (hN _ _ (nx_2 j hj)) (hev j hj)) hA
  have hc : ∀ k : Nat, ∃ p : ClassId × (Nat → Nat), ∀ q : vw_C, g_cl[k]? = some q → u_Kn s q.1 q.2.1 q.2.2 p.1 p.2 := fun k => by
    cases hq : g_cl[k]? with
    | none => exact ⟨(0, fun _ => 0), fun q h => by cases h⟩
    | some q =>
      obtain ⟨C, T, N⟩ := q
      obtain ⟨c1, i1, h1⟩ := u_known (ws := lw_tbl) (C := C) (T := T) (N := N) (n := N) hts (fun w hw => nic_sub ((g_CF k C T N hq).1 w hw)) (hts _ (nt_ins k _ hq))
      exact ⟨(c1, i1), fun q h => by cases h; exact h1⟩
  obtain ⟨dp, hdp⟩ := Classical.axiomOfChoice hc
  have ha : ∀ ty : FieldType, Cond.arrayClass ty ∈ lw_tbl → (∀ n, ty ≠ .object n) → ∃ cA : ClassId, ArrOfT s cA ty ∧ va_RA s cA ty := fun ty hm hne => by
    obtain ⟨cA, kA, comp, hf, hk, hkind⟩ := Cond.arrayClass_spec (hts _ hm)
    refine ⟨cA, fun n z => ⟨fun k h => (by cases h), kA, hk, comp, hkind⟩, ?_⟩
    unfold va_RA
    split
    · exact absurd rfl (hne _)
    · exact hf
  obtain ⟨a6, h6⟩ := ha .int nt_7 (fun n h => by cases h)
  obtain ⟨a7, h7⟩ := ha .long nt_8 (fun n h => by cases h)
  obtain ⟨a8, h8⟩ := ha .byte nt_9 (fun n h => by cases h)
  obtain ⟨a9, h9⟩ := ha .boolean nt_10 (fun n h => by cases h)
  refine ⟨(fun k => (dp k).1, fun k => (dp k).2), fun k => match k with
    | 6 => a6
    | 7 => a7
    | 8 => a8
    | _ => a9, adW, aT, ⟨fun k q hq => hdp k q hq, fun k q hq => ?_⟩, ?_, fun i j hi hj h => hEn.2 i j hi hj h⟩
  · match k, hq with
    | 0, hq => cases hq; exact h6
    | 1, hq => cases hq; exact h7
    | 2, hq => cases hq; exact h8
    | 3, hq => cases hq; exact h9
    | k + 4, hq => cases hq
  · refine ⟨?_, hT2, ?_, ?_, nt_cW, ?_, hA b hbl, hbl, hL, fun j => in_i32 _, vx_Zqof (hts _ nt_5) (hts _ nt_3) (hN _ _ nx_9) hA, vx_Zqof (hts _ nt_6) (hts _ nt_3) (hN _ _ nx_10) hA⟩
    · intro C n d v hz
      rcases hz with ⟨rfl, rfl, rfl, rfl⟩ | ⟨k, hk, rfl, rfl, rfl, rfl⟩
      · exact va_Zref (hts _ nt_4) (hts _ nt_2) hT1 hA
      · exact (hEn.1 k hk).1
    · exact va_Efof (nm := wnm) (tm := fun i => .long (Int64.ofInt (g_cW 0 i))) (fun i hi => hev i hi) (fun i hi => hN _ _ (nx_3 i hi)) (fun i hi => rfl) hA
    · exact va_Efof (nm := wnm) (tm := fun i => .int (Int32.ofInt (g_cW 1 i))) (fun i hi => hev i hi) (fun i hi => hN _ _ (nx_4 i hi)) (fun i hi => rfl) hA
    · have e : (fun j => Int32.ofInt ((xs j).toInt)) = xs := funext fun j => Int32.ofInt_toInt _
      rw [e]
      exact hX
theorem na_7 : Cond.arrayClass .int ∈ lw_nic := List.mem_filter.mpr ⟨nt_7, by decide +kernel⟩
theorem na_8 : Cond.arrayClass .long ∈ lw_nic := List.mem_filter.mpr ⟨nt_8, by decide +kernel⟩
theorem na_9 : Cond.arrayClass .byte ∈ lw_nic := List.mem_filter.mpr ⟨nt_9, by decide +kernel⟩
theorem na_10 : Cond.arrayClass .boolean ∈ lw_nic := List.mem_filter.mpr ⟨nt_10, by decide +kernel⟩
end
