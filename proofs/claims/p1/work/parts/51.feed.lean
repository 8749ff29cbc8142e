/-! ===== the law's first case ===== -/
section FEED4
variable {xs : Nat → Int}
theorem fg_1 : j_rf a_g3 (0 : Int).toNat 0 = some 1 := by decide +kernel
theorem fg_2 : j_rf a_g3 (1 : Int).toNat 0 = some 2 := by decide +kernel
theorem fg_3 : j_rf a_g3 (2 : Int).toNat 0 = some 3 := by decide +kernel
theorem fg_4 : j_len a_g3 (3 : Int).toNat = 1000 := by decide +kernel
theorem fg_5 : j_rf a_g3 (182 : Int).toNat 1 = some 183 := by decide +kernel
theorem fg_6 : j_len a_g3 (183 : Int).toNat = 1000 := by decide +kernel
theorem fg_7 : lookH a_h3 (2 : Int).toNat 1 = .inl 0 := by decide +kernel
theorem fg_8 : lookH a_h3 (182 : Int).toNat 2 = .inl 0 := by decide +kernel
def f_arg (xs : Nat → Int) (i j : Nat) : Int := j_lop 4 (j_lsh 0 (xs i) ((32 : Nat) : Int)) (j_lop 3 (xs j) ((4294967295 : Nat) : Int))
theorem fw_args {F : XP} {st : XT} : evE xs 7 g_ck F g_cW fwA [0, 0, 182, 203, 0, 0, 0] st = some ([f_arg xs 1 2, f_arg xs 3 4, f_arg xs 5 6], st) := by
  have hd : ∀ (i : Nat), 0 < i → i < 7 → evE xs 7 g_ck F g_cW (sx 18 (sx 7 (sx 3 z0 z0 z0) (sx 14 (sx 3 (sv 4) z0 z0) (sx 1 (sv i) (sv 1) z0) z0) (sv 1)) z0 (sv 2)) [0, 0, 182, 203, 0, 0, 0] st = some ([xs i], st) := fun i h0 h1 => by
    match i, h0, h1 with
    | 1, _, _ => rfl
    | 2, _, _ => rfl
    | 3, _, _ => rfl
    | 4, _, _ => rfl
    | 5, _, _ => rfl
    | 6, _, _ => rfl
    | 0, h, _ => exact absurd h (by omega)
    | i + 7, _, h => exact absurd h (by omega)
  have ha : ∀ (i j : Nat), 0 < i → i < 7 → 0 < j → j < 7 → evE xs 7 g_ck F g_cW (sx 15 (sx 16 (sx 18 (sx 7 (sx 3 z0 z0 z0) (sx 14 (sx 3 (sv 4) z0 z0) (sx 1 (sv i) (sv 1) z0) z0) (sv 1)) z0 (sv 2)) (sx 1 (sv 32) (sv 1) z0) z0) (sx 15 (sx 18 (sx 7 (sx 3 z0 z0 z0) (sx 14 (sx 3 (sv 4) z0 z0) (sx 1 (sv j) (sv 1) z0) z0) (sv 1)) z0 (sv 2)) (sx 1 (sv 4294967295) (sv 2) z0) (sv 3)) (sv 4)) [0, 0, 182, 203, 0, 0, 0] st = some ([f_arg xs i j], st) := fun i j h0 h1 h2 h3 => by
    rw [ee_15, ee_16, ee_15, ee_1, ee_1]
    unfold n_bin
    simp only [Option.bind_some, hd i h0 h1, hd j h2 h3, j_hd, List.headD_cons, n_sv, n_z0, if_true, f_arg]
  unfold fwA
  rw [ee_30, ee_30, ee_30, ee_31]
  dsimp only
  rw [ha 1 2 (by decide) (by decide) (by decide) (by decide), Option.bind_some, ha 3 4 (by decide) (by decide) (by decide) (by decide), Option.bind_some, ha 5 6 (by decide) (by decide) (by decide) (by decide)]
  rfl
theorem fw_cmp {n : Nat} {h : XH} (h1 : h (2 : Int).toNat 1 = 0) (h2 : h (182 : Int).toNat 2 = 0) {c d : Nat} : ∃ hh, evE xs 7 g_ck (evF xs 7 g_ck 2000 g_cW g_M (n + 2)) g_cW fwX [0, 0, 182, 203, 0, 0, 0] ((a_g3, c, d), h) = some ([0], ((a_g3, c, d), hh)) := by
  obtain ⟨h3, e1, f1⟩ := feA (xs := xs) (L := 7) (ck := g_ck) (cW := g_cW) (n := n) (a := f_arg xs 1 2) (b := f_arg xs 3 4) (c := f_arg xs 5 6) (g := (a_g3, c, d)) fg_1 fg_2 fg_3 fg_4 (by decide) h1 (by decide) (by decide)
  have h4 : h3 (182 : Int).toNat 2 = 0 := (f1 _ _ (by decide) (by decide)).trans h2
  obtain ⟨h5, e2⟩ := feM (xs := xs) (L := 7) (ck := g_ck) (cW := g_cW) (n := n) (a := f_arg xs 1 2) (b := f_arg xs 3 4) (c := f_arg xs 5 6) (g := (a_g3, c, d)) fg_5 fg_6 (by decide) h4 (by decide) (by decide)
  refine ⟨h5, ?_⟩
  generalize evF xs 7 g_ck 2000 g_cW g_M (n + 2) = F at e1 e2 ⊢
  unfold fwX
  simp only [ee_20, ee_32, ee_30, ee_3, n_cmp, n_call, fw_args, Option.bind_some, j_hd, List.headD_cons, n_sv, n_z0, List.getD_cons_zero, List.getD_cons_succ, List.cons_append, List.nil_append, e1, e2, if_true]
  unfold j_cmp
  simp [j_b]
theorem fw_C0 {F : XP} {st : XT} : evE xs 7 g_ck F g_cW fwC [0, 0, 182, 203, 0, 0, 0] st = some ([1], st) := rfl
theorem fw_C7 {F : XP} {st : XT} : evE xs 7 g_ck F g_cW fwC [0, 0, 182, 203, 7, 0, 0] st = some ([0], st) := rfl
theorem fw_S0 {F : XP} {st : XT} : evE xs 7 g_ck F g_cW fwS [0, 0, 182, 203, 0, 0, 0] st = some ([j_iop 3 (xs 0) 63], st) := rfl
theorem fw_P0 {F : XP} {st : XT} : evS xs 7 g_ck F 2000 g_cW fwP [0, 0, 182, 203, 0, 0, 0] st = some (0, [], [0, 0, 182, 203, 7, 0, 0], st) := rfl
theorem fw_all {n : Nat} (hs : j_iop 3 (xs 0) 63 = 0) {h : XH} (h1 : h (2 : Int).toNat 1 = 0) (h2 : h (182 : Int).toNat 2 = 0) {c d : Nat} : ∃ hh, evS xs 7 g_ck (evF xs 7 g_ck 2000 g_cW g_M (n + 2)) 2000 g_cW lawR [0, 0, 182, 203, 0, 0, 0] ((a_g3, c, d), h) = some (1, [1], [0, 0, 182, 203, 7, 0, 0], ((a_g3, c, d), hh)) := by
  obtain ⟨hh, e1⟩ := fw_cmp (xs := xs) (n := n) h1 h2 (c := c) (d := d)
  refine ⟨hh, ?_⟩
  generalize evF xs 7 g_ck 2000 g_cW g_M (n + 2) = F at e1 ⊢
  rw [fw_r, es_2, es_20, es_2, es_3, es_12, es_27, ee_1, ee_1]
  have b0 : evS xs 7 g_ck F 2000 g_cW (sx 20 (sx 19 fwS (sx 25 (so 0 z0) (sx 28 fwX (sx 27 (sx 1 z0 (sv 1) z0) z0 z0) z0) fwR) z0) z0 z0) [0, 0, 182, 203, 0, 0, 0] ((a_g3, c, d), h) = some (0, [], [0, 0, 182, 203, 0, 0, 0], ((a_g3, c, d), hh)) := by
    rw [es_20, es_19]
    unfold s_sw
    rw [fw_S0, Option.bind_some]
    dsimp only
    have b1 : evS xs 7 g_ck F 2000 g_cW (sx 25 (so 0 z0) (sx 28 fwX (sx 27 (sx 1 z0 (sv 1) z0) z0 z0) z0) fwR) (j_hd [j_iop 3 (xs 0) 63] :: [0, 0, 182, 203, 0, 0, 0]) ((a_g3, c, d), h) = some (2, [], [0, 0, 182, 203, 0, 0, 0], ((a_g3, c, d), hh)) := by
      rw [es_25, show j_hd [j_iop 3 (xs 0) 63] = j_iop 3 (xs 0) 63 from rfl, hs]
      refine (if_pos rfl).trans ?_
      rw [es_28]
      unfold s_if
      show ((evE xs 7 g_ck F g_cW fwX [0, 0, 182, 203, 0, 0, 0] ((a_g3, c, d), h)).bind _).bind _ = _
      rw [e1]
      rfl
    rw [b1]
    rfl
  have l0 : s_loop (evE xs 7 g_ck F g_cW fwC) (evS xs 7 g_ck F 2000 g_cW (sx 20 (sx 19 fwS (sx 25 (so 0 z0) (sx 28 fwX (sx 27 (sx 1 z0 (sv 1) z0) z0 z0) z0) fwR) z0) z0 z0)) (evS xs 7 g_ck F 2000 g_cW fwP) (1998 + 1 + 1) [0, 0, 182, 203, 0, 0, 0] ((a_g3, c, d), h) = some (0, [], [0, 0, 182, 203, 7, 0, 0], ((a_g3, c, d), hh)) := by
    unfold s_loop
    rw [fw_C0, Option.bind_some]
    refine (if_neg (show ¬ (1 : Int) = 0 by decide)).trans ?_
    rw [b0, Option.bind_some]
    refine (if_pos (Or.inl rfl)).trans ?_
    dsimp only
    rw [fw_P0, Option.bind_some]
    refine (if_pos rfl).trans ?_
    unfold s_loop
    dsimp only
    rw [fw_C7, Option.bind_some]
    exact if_pos rfl
  unfold s_seq
  dsimp only
  simp only [Option.bind_some, if_true]
  rw [show [0, 0, 182, 203, 0, 0, 0].set (sx_n (sv 4)) (j_hd [if sx_n z0 = 0 then (sx_n z0 : Int) else -(sx_n z0 : Int)]) = [0, 0, 182, 203, 0, 0, 0] from rfl]
  rw [show (2000 : Nat) = 1998 + 1 + 1 from rfl] at l0 ⊢
  rw [l0]
  rfl
theorem c_at {s : AS} {a b : Nat} : (a_c xs s).2 a b = a_v xs (lookH s.2 a b) := rfl
theorem ends_0 (hs : j_iop 3 (xs 0) 63 = 0) : EndsA xs 7 := by
  have e1 : (a_c xs a_s3).2 (2 : Int).toNat 1 = 0 := by
    rw [c_at, show a_s3.2 = a_h3 from rfl, fg_7]
    rfl
  have e2 : (a_c xs a_s3).2 (182 : Int).toNat 2 = 0 := by
    rw [c_at, show a_s3.2 = a_h3 from rfl, fg_8]
    rfl
  obtain ⟨hh, e3⟩ := fw_all (xs := xs) (n := 38) hs e1 e2 (c := a_s3.1.2.1) (d := a_s3.1.2.2)
  refine ⟨_, ((a_g3, a_s3.1.2.1, a_s3.1.2.2), hh), (ev_rest (by decide)).trans e3, ?_, ?_⟩
  · show a_s3.1.2.1 ≤ 600002
    decide
  · show a_s3.1.2.2 ≤ 7302232
    decide
end FEED4
