/-! ===== the reference's parser: put together ===== -/
section PARL
variable {P : Int × Int} {N : Nat} {g : Nat × Nat} {xs : Nat → Int} {L K n : Nat} {ck : Nat → List Nat} {cW : Nat → Nat → Int} {h : XH}
theorem p_210 (hK_w : 4294967300 ≤ K) : G210 P N g (evF xs L ck K cW g_M (n + 40)) := by
  have pb : ∀ m, PB P N g (evF xs L ck K cW g_M (m + 5)) := fun m => p_b hK_w
  obtain ⟨c191, c192, c193, c194, c195, c196, c197, c200, c201, c202, c203, c204, c205, c216⟩ := pb (n + 34)
  obtain ⟨d191_w, -, -, -, -, -, d197_w, d200_w, -, d202_w, d203_w, d204_w, d205_w, -⟩ := pb (n + 33)
  obtain ⟨e191, -, -, -, -, -, -, e200, -, -, e203, e204, -, -⟩ := pb (n + 32)
  have e : GE 217 25 0 P N g (evF xs L ck K cW g_M (n + 39)) := (g_E hK_w 5 (n + 4) 0 (by decide) (by decide)).2
  exact g_210 c191 c193 c200 g_207 (g_208 d191_w d203_w d204_w g_207) (g_209 d191_w g_207) (g_211 hK_w d191_w d200_w) (g_212 d197_w d200_w g_207 (g_208 e191 e203 e204 g_207) (g_211 hK_w e191 e200)) (g_213 d197_w d202_w d205_w g_207 (g_208 e191 e203 e204 g_207)) c216 e
theorem p_215 (hK2 : 20000000000 ≤ K) (hn : n + 40 < 99999) : G215 P N g (evF xs L ck K cW g_M (n + 40)) := by
  obtain ⟨c191, c192, c193, c194, c195, c196, c197, c200, c201, c202, c203, c204, c205, c216⟩ := p_b (P := P) (N := N) (g := g) (xs := xs) (L := L) (K := K) (n := n + 34) (ck := ck) (cW := cW) (by omega)
  exact g_215 c200 c205 (gv_of hK2 (by rw [rd_225]; omega) (by omega) rfl rr_225 (by decide +kernel) (by decide +kernel)) (gv_of hK2 (by rw [rd_227]; omega) (by omega) rfl rr_227 (by decide +kernel) (by decide +kernel)) (gv_of hK2 (by rw [rd_228]; omega) (by omega) rfl rr_228 (by decide +kernel) (by decide +kernel)) (gv_of hK2 (by rw [rd_233]; omega) (by omega) rp_233 rr_233 (by decide +kernel) (by decide +kernel)) (gv_of hK2 (by rw [rd_234]; omega) (by omega) rp_234 rr_234 (by decide +kernel) (by decide +kernel))
theorem p_214 (hK2 : 20000000000 ≤ K) (hn : n + 41 < 99999) (c190 : G190 P g (evF xs L ck K cW g_M (n + 40))) (hQ : QK P (r_T 0) (RJ P) h) (hD : DG h) (h0 : 0 ≤ h 182 12) (h1 : h 182 12 ≤ 1001) : ∃ r h', evF xs L ck K cW g_M (n + 41) 214 [182] ((a_g3, g), h) = some (1, r, ((a_g3, g), h')) ∧ B214 P r h' :=
  t_214 (n := n + 40) (by omega) c190 (fun N => (p_b (N := N) (n := n + 35) (by omega)).1) (fun N => (p_b (N := N) (n := n + 35) (by omega)).2.2.2.1) (fun N => (p_b (N := N) (n := n + 35) (by omega)).2.2.2.2.2.2.2.2.1) (fun N => p_215 hK2 (by omega)) hQ hD h0 h1
theorem p_206 (hK2 : 20000000000 ≤ K) (c190 : G190 P g (evF xs L ck K cW g_M (n + 40))) (hQ : QK P (r_T 0) (RJ P) h) (hD : DG h) (h0 : 0 ≤ h 182 12) (h1 : h 182 12 ≤ 1001) : ∃ r h', evF xs L ck K cW g_M (n + 41) 206 [182] ((a_g3, g), h) = some (1, r, ((a_g3, g), h')) ∧ B206 r h' :=
  t_206 (n := n + 40) (by omega) c190 (fun N => (p_b (N := N) (n := n + 35) (by omega)).2.2.2.1) (g_199 (n := n + 39) (by omega)) (fun N => p_210 (by omega)) (fun P'_w h q gg ll => t_241 (n := n + 37) (by omega) q gg ll) hQ hD h0 h1
end PARL
