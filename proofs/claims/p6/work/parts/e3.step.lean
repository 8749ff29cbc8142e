/-! ===== the steps_w of the law_w, with what lasts ===== -/
section STEPS3
variable {xs : Nat → Int} {L K n : Nat} {i : Int} {I : XH → Prop} {F : XP}
theorem tv_x : TV (fun _ => 0) a_g3 10 0 := TV.ref (by decide) (by decide) ⟨by decide, kd_ty (q := 0) (kd := 10) (by decide +kernel)⟩
theorem jb_01 {b : Bool} : j_b b = 0 ∨ j_b b = 1 := by
  cases b
  · exact Or.inl rfl
  · exact Or.inr rfl
theorem tv_jb {b : Bool} : TV (fun _ => 0) a_g3 100 (j_b b) := TV.bool jb_01
theorem iv_jb {P : Int × Int} {b : Bool} : IV P (1, 0, 1) (j_b b) := by
  cases b
  · exact ⟨by decide, by decide, by decide, by decide⟩
  · exact ⟨by decide, by decide, by decide, by decide⟩
def lgV (a b : Int) : Int := j_lop 4 (j_lsh 0 a ((32 : Nat) : Int)) (j_lop 3 b ((4294967295 : Nat) : Int))
theorem lg_ev {F : XP} (hL : (L : Int) ≤ 2147483647) (h0 : 0 ≤ i) (h1 : i + 7 ≤ (L : Int)) (j k : Nat) (hj : j ≤ 6) (hk : k ≤ 6) (s t : Int) (st : XT) : evE xs L g_ck F g_cW (sx 15 (sx 16 (sx 18 (sA j) z0 (sv 2)) (sx 1 (sv 32) (sv 1) z0) z0) (sx 15 (sx 18 (sA k) z0 (sv 2)) (sx 1 (sv 4294967295) (sv 2) z0) (sv 3)) (sv 4)) (lwE i s t) st = some ([lgV (xs (i + (j : Int)).toNat) (xs (i + (k : Int)).toNat)], st) := by
  rw [ee_15, ee_16, ee_15, ee_1, ee_1, ee_18, ee_18]
  unfold n_bin
  simp only [sA_ev hL h0 h1 j hj, sA_ev hL h0 h1 k hk, Option.bind_some, j_hd, List.headD_cons, n_sv, n_z0, if_true, lgV]
  rfl
theorem arg_fd {F : XP} (hL : (L : Int) ≤ 2147483647) (h0 : 0 ≤ i) (h1 : i + 7 ≤ (L : Int)) : ArgE xs L F fwA i [lgV (xs (i + ((1 : Nat) : Int)).toNat) (xs (i + ((2 : Nat) : Int)).toNat), lgV (xs (i + ((3 : Nat) : Int)).toNat) (xs (i + ((4 : Nat) : Int)).toNat), lgV (xs (i + ((5 : Nat) : Int)).toNat) (xs (i + ((6 : Nat) : Int)).toNat)] :=
  arg_cons (lg_ev hL h0 h1 1 2 (by decide) (by decide)) (arg_cons (lg_ev hL h0 h1 3 4 (by decide) (by decide)) (arg_cons (lg_ev hL h0 h1 5 6 (by decide) (by decide)) arg_nil))
/-- a call of both_w, their answers_w compared: they are the same -/
theorem step_c {A B : SX} {f r : Nat} {vs ws_w : List Int} (hA : ArgE xs L F A i vs) (hB_w : ArgE xs L F B i ws_w) (hP : ∀ (c d : Nat) (h : XH), I h → ∃ (v : Int) (h1 h2 : XH), F f vs ((a_g3, c, d), h) = some (1, [v], ((a_g3, c, d), h1)) ∧ F r ws_w ((a_g3, c, d), h1) = some (1, [v], ((a_g3, c, d), h2)) ∧ I h2) :
    StepOK xs L K F I (sx 28 (sx 20 (sx 32 A (sv f) z0) (sx 32 B (sv r) z0) (sv 1)) (sx 27 (sx 1 z0 (sv 1) z0) z0 z0) z0) i := by
  intro s t c d h hI
  obtain ⟨v, h1, h2, e1_w, e2_w, e3_w⟩ := hP c d h hI
  refine ⟨s, t, c, d, h2, ?_, e3_w, by omega, by omega⟩
  have a1_w := hA s t ((a_g3, c, d), h)
  have a2 := hB_w s t ((a_g3, c, d), h1)
  rw [es_28]
  unfold s_if
  rw [ee_20]
  unfold n_cmp
  rw [ee_32, ee_32]
  unfold n_call
  simp only [a1_w, a2, Option.bind_some, n_sv, e1_w, e2_w, if_true]
  have z : j_cmp 1 (j_hd [v]) (j_hd [v]) = false := by simp [j_cmp]
  rw [z]
  exact if_pos rfl
theorem feed_s3 (hK2 : 20000000000 ≤ K) (a b e : Int) : ∀ (c d : Nat) (h : XH), Inv3 h → ∃ (v1_w v2 : List Int) (h1 h2 : XH), evF xs L g_ck K g_cW g_M (n + 41) 1 [0, a, b, e] ((a_g3, c, d), h) = some (1, v1_w, ((a_g3, c, d), h1)) ∧ evF xs L g_ck K g_cW g_M (n + 41) 183 [182, a, b, e] ((a_g3, c, d), h1) = some (1, v2, ((a_g3, c, d), h2)) ∧ Inv3 h2 := fun c d h hI => by
  obtain ⟨v, h1, h2, e1_w, e2_w, e3_w⟩ := feed_i3 (xs := xs) (L := L) (K := K) (n := n + 39) (c := c) (d := d) (a := a) (b := b) (e := e) (by omega) hI
  exact ⟨[v], [v], h1, h2, e1_w, e2_w, e3_w⟩
theorem grid_s3 (hK2 : 20000000000 ≤ K) (hn : n + 41 < 99999) : ∀ (c d : Nat) (h : XH), Inv3 h → ∃ (v : Int) (h1 h2 : XH), evF xs L g_ck K g_cW g_M (n + 41) 2 [0] ((a_g3, c, d), h) = some (1, [v], ((a_g3, c, d), h1)) ∧ evF xs L g_ck K g_cW g_M (n + 41) 206 [182] ((a_g3, c, d), h1) = some (1, [v], ((a_g3, c, d), h2)) ∧ Inv3 h2 := fun c d h hI => grid_i3 hK2 hn hI
theorem try_i3 {q f r o ml_w : Nat} {pk_w rk : List Nat} {A : SX} {vs ws_w en : List Int} (hK2 : 20000000000 ≤ K) (hn : n + 41 < 99999) (hm_w : g_M q = (0, ml_w, pk_w, rk, sx 2 (sx 24 (sx 3 (sv o) z0 z0) A (sv f)) (sx 16 (sx 1 z0 (sv 1) z0) z0 z0) z0)) (hen : j_pad 0 ml_w (j_lay pk_w (vs ++ [203])) = en) (ho : en.getD o 0 = 203) (hA : ∀ st, evE xs L g_ck (evF xs L g_ck K g_cW g_M (n + 40)) g_cW A en st = some (vs, st)) (hd_w : g_dp f ≤ 30) (hR : (g_T 0).2.2.1 f = [1]) (ha_w : VL (fun _ => 0) a_g3 ((g_T 0).2.1 f) vs) (hr : r_dp r ≤ 30) (hf : r_n3 r = true) (hv : ∀ P, IL P (qP (r_T 0) r) (182 :: ws_w)) :
    ∀ (c d : Nat) (h : XH), Inv3 h → ∃ (v1_w v2 : List Int) (c' d' : Nat) (h1 h2 : XH), evF xs L g_ck K g_cW g_M (n + 41) q (vs ++ [203]) ((a_g3, c, d), h) = some (1, v1_w, ((a_g3, c', d'), h1)) ∧ evF xs L g_ck K g_cW g_M (n + 41) r (182 :: ws_w) ((a_g3, c', d'), h1) = some (1, v2, ((a_g3, c', d'), h2)) ∧ Inv3 h2 ∧ c' ≤ c + 1 ∧ d' ≤ d + 6 := fun c d h hI => by
  have f1_w : r_nf r = true := by
    simp only [r_n3, Bool.and_eq_true] at hf
    exact hf.1.1.1
  obtain ⟨v1_w, c', d', h1, e1_w, e2_w, e3_w, e4_w, a1_w, a2, a3, a4⟩ := catch_fr (xs := xs) (L := L) (K := K) (n := n + 40) (c := c) (d := d) (by omega) hm_w hen ho hA (by omega) (by omega) hR ha_w hI.1
  obtain ⟨v2, h2, g1, g2, -⟩ := ref_inv (xs := xs) (L := L) (c := c') (d := d') hK2 hn (by omega) f1_w hv e2_w
  obtain ⟨-, b1, b2, b3, b4⟩ := ref_3 (g := (a_g3, c', d')) hf rfl g1
  exact ⟨v1_w, v2, c', d', h1, h2, e1_w, g1, hI.kp g2 (b1.trans a1_w) (b2.trans a2) (b3.trans a3) (b4.trans a4), e3_w, e4_w⟩
end STEPS3
