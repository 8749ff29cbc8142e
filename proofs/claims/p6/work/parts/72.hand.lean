/-! ===== the class's leaves: words, names, the next reading ===== -/
section LEAF3
variable {xs : Nat → Int} {L K c d n : Nat} {ck : Nat → List Nat} {cW : Nat → Nat → Int} {F : XP} {a b e : SX}
theorem ee_13 : evE xs L ck F cW (sx 13 a b e) = n_wf cW (sx_n e) (evE xs L ck F cW a) := rfl
theorem ee_22 : evE xs L ck F cW (sx 22 a b e) = n_cmp (j_cmp (sx_n e)) (evE xs L ck F cW a) (evE xs L ck F cW b) := rfl
theorem ee_17 : evE xs L ck F cW (sx 17 a b e) = fun en st => (evE xs L ck F cW a en st).bind fun x => (evE xs L ck F cW b en x.2).bind fun y => if j_hd y.1 = 0 then none else some ([j_div (sx_n e) (j_hd x.1) (j_hd y.1)], y.2) := rfl
theorem arr_small : a_g3.all (fun c => decide (c.2.1 ≤ 10000)) = true := by decide +kernel
theorem len_small {q : Nat} {c : XC} (hc : a_g3[q]? = some c) : (c.2.1 : Int) ≤ 10000 := by
  have h := List.all_eq_true.mp arr_small c (List.mem_of_getElem? hc)
  have h2 : c.2.1 ≤ 10000 := of_decide_eq_true h
  omega
theorem VL1 {z : Nat → Int} {g : XS} {s : Nat} {av : List Int} (h : VL z g [s] av) : ∃ v, av = [v] ∧ TV z g s v := by
  match av, h with
  | [v], h => exact ⟨v, rfl, h.1⟩
theorem j_b_if {p : Prop} [Decidable p] (h : p) : j_b (decide p) = 1 := by rw [decide_eq_true h]; rfl
theorem j_b_in {p : Prop} [Decidable p] (h : ¬ p) : j_b (decide p) = 0 := by rw [decide_eq_false h]; rfl
theorem tot_77 (hK : 4294967300 ≤ K) : TotF (g_T 0) (a_g3, c, d) g_ro (evF xs L ck K cW g_M (n + 1)) 77 := by
  intro av hh hH hv
  obtain ⟨r, rfl, hr⟩ := VL1 (s := 19) hv
  have go := lp_gen (g := (a_g3, c, d)) (C' := evE xs L ck (evF xs L ck K cW g_M n) cW lc_77) (B' := evS xs L ck (evF xs L ck K cW g_M n) K cW lb_77) (P' := evS xs L ck (evF xs L ck K cW g_M n) K cW ls_77)
    (Inv := fun en h => ∃ i : Int, en = [r, i] ∧ 0 ≤ i ∧ i ≤ 24 ∧ h = hh) (Done := fun _ h => h = hh) (Ret := fun vs h => h = hh ∧ ∃ w : Int, vs = [w] ∧ 0 ≤ w ∧ w < 24) (mea := fun en _ => (24 - en.getD 1 0).toNat) (by
    rintro en h ⟨i, rfl, i0, i1, rfl⟩
    by_cases hi : h r.toNat 3 = 1 ∧ i < 24
    · have hc : evE xs L ck (evF xs L ck K cW g_M n) cW lc_77 [r, i] ((a_g3, c, d), h) = some ([1], ((a_g3, c, d), h)) := by
        unfold lc_77
        simp only [ee_25, n_ife, n_nz, ee_20, ee_10, ee_4, ee_3, ee_1, n_cmp, n_alen, Option.bind_some, j_hd, List.headD_cons, n_sv, n_z0, List.getD_cons_zero, List.getD_cons_succ, j_cmp, if_true]
        simp [hi.1, hi.2, j_b]
      by_cases hw : cW 0 i.toNat = h r.toNat 6
      · refine Or.inr ⟨1, h, by decide, hc, 1, [i], [r, i], h, ?_, Or.inr (Or.inr ⟨rfl, rfl, i, rfl, i0, hi.2⟩)⟩
        unfold lb_77
        simp only [es_20, es_10, es_16, s_if, ee_22, ee_13, n_wf, ee_7, n_aload, ee_4, ee_3, ee_1, n_cmp, Option.bind_some, j_hd, List.headD_cons, n_sv, n_z0, List.getD_cons_zero, List.getD_cons_succ, j_cmp, if_true]
        simp [i0, hi.2, hw, j_b]
      · refine Or.inr ⟨1, h, by decide, hc, 0, [], [r, i], h, ?_, Or.inl ⟨Or.inl rfl, [r, i + 1], h, ?_, ⟨i + 1, rfl, by omega, by omega, rfl⟩, ?_⟩⟩
        · unfold lb_77
          simp only [es_20, es_10, es_16, s_if, ee_22, ee_13, n_wf, ee_7, n_aload, ee_4, ee_3, ee_1, n_cmp, Option.bind_some, j_hd, List.headD_cons, n_sv, n_z0, List.getD_cons_zero, List.getD_cons_succ, j_cmp, if_true]
          simp [i0, hi.2, hw, j_b]
        · show some (0, [], [r, j32 (i + 1)], _) = _
          rw [j32_up i0 hi.2 (by decide)]
        · show (24 - (i + 1)).toNat < (24 - i).toNat
          omega
    · refine Or.inl ⟨h, ?_, rfl⟩
      unfold lc_77
      simp only [ee_25, n_ife, n_nz, ee_20, ee_10, ee_4, ee_3, ee_1, n_cmp, n_alen, Option.bind_some, j_hd, List.headD_cons, n_sv, n_z0, List.getD_cons_zero, List.getD_cons_succ, j_cmp, if_true]
      by_cases a1 : h r.toNat 3 = 1
      · have a2 : ¬ i < 24 := fun k => hi ⟨a1, k⟩
        simp [a1, a2, j_b]
      · simp [a1, j_b]) K (24 - 0) [r, 0] hh ⟨0, rfl, Int.le_refl _, by decide, rfl⟩ (Nat.le_refl _) (by omega)
  have fin : ∀ (w : Int), 0 ≤ w → w < 24 → (∃ en', evS xs L ck (evF xs L ck K cW g_M n) K cW bb_77 [r, 0] ((a_g3, c, d), hh) = some (1, [w], en', ((a_g3, c, d), hh))) → ∃ r' h', evF xs L ck K cW g_M (n + 1) 77 [r] ((a_g3, c, d), hh) = some (1, r', ((a_g3, c, d), h')) ∧ HT g_fk a_g3 h' ∧ FR g_ro hh h' ∧ VL (fun _ => 0) a_g3 [3] r' := fun w w0 w1 ⟨en', k1⟩ => by
    refine ⟨[w], hh, ?_, hH, FR.rf, TV.word ⟨w0, w1⟩, trivial⟩
    rw [evF_s, gm_77]
    show (evS xs L ck (evF xs L ck K cW g_M n) K cW bb_77 [r, 0] ((a_g3, c, d), hh)).bind _ = _
    rw [k1, Option.bind_some]
    exact if_pos chk_self
  rcases go with ⟨en', h', e1, rfl⟩ | ⟨vs, en', h', e1, rfl, w, rfl, w0, w1⟩
  · refine fin 23 (by decide) (by decide) ⟨en', ?_⟩
    rw [lq_77, es_2, es_20, es_2, es_3, es_12, es_16, ee_1, ee_1]
    unfold s_seq
    dsimp only
    simp only [Option.bind_some, if_true]
    rw [show [r, 0].set (sx_n (sv 1)) (j_hd [if sx_n z0 = 0 then (sx_n z0 : Int) else -(sx_n z0 : Int)]) = [r, 0] from rfl, e1]
    rfl
  · refine fin w w0 w1 ⟨en', ?_⟩
    rw [lq_77, es_2, es_20, es_2, es_3, es_12, es_16, ee_1, ee_1]
    unfold s_seq
    dsimp only
    simp only [Option.bind_some, if_true]
    rw [show [r, 0].set (sx_n (sv 1)) (j_hd [if sx_n z0 = 0 then (sx_n z0 : Int) else -(sx_n z0 : Int)]) = [r, 0] from rfl, e1]
    rfl
theorem find_ok (hK : 4294967300 ≤ K) {p name from0 many : Int} {hh : XH} (hp : TV (fun _ => 0) a_g3 15 p) (f0 : 0 ≤ from0) (f1 : from0 ≤ 8) : ∃ v : Int, InI v ∧ evF xs L ck K cW g_M (n + 1) 105 [p, name, from0, many] ((a_g3, c, d), hh) = some (1, [v], ((a_g3, c, d), hh)) := by
  obtain ⟨q, hq, q0, c', hc', he'⟩ := ref_at (ci := 5) (k := 0) (kd := 7) hp (by decide) rfl (by decide) (by decide)
  obtain ⟨hl, hl2⟩ := len_at hc'
  have hl3 := len_small hc'
  have hl0 : (0 : Int) ≤ (c'.2.1 : Int) := by omega
  generalize (c'.2.1 : Int) = len at hl hl2 hl3 hl0
  have go := lp_gen (g := (a_g3, c, d)) (C' := evE xs L ck (evF xs L ck K cW g_M n) cW lc_105) (B' := evS xs L ck (evF xs L ck K cW g_M n) K cW lb_105) (P' := evS xs L ck (evF xs L ck K cW g_M n) K cW ls_105)
    (Inv := fun en h => ∃ i : Int, en = [p, name, 0, from0, many, i] ∧ 0 ≤ i ∧ i ≤ len ∧ h = hh) (Done := fun _ h => h = hh) (Ret := fun vs h => h = hh ∧ ∃ w : Int, vs = [w] ∧ 0 ≤ w ∧ w < 2147483648) (mea := fun en _ => (len - en.getD 5 0).toNat) (by
    rintro en h ⟨i, rfl, i0, i1, rfl⟩
    have e8 : j_iop 0 from0 i = from0 + i := j32_in ⟨by omega, by omega⟩
    by_cases hi : i < many ∧ from0 + i < len
    · have hc : evE xs L ck (evF xs L ck K cW g_M n) cW lc_105 [p, name, 0, from0, many, i] ((a_g3, c, d), h) = some ([1], ((a_g3, c, d), h)) := by
        unfold lc_105
        simp only [ee_25, n_ife, n_nz, ee_20, ee_14, n_bin, ee_10, ee_5, ee_3, n_cmp, n_alen, Option.bind_some, j_hd, List.headD_cons, n_sv, n_z0, List.getD_cons_zero, List.getD_cons_succ, hq, hl, j_cmp, e8]
        simp [hi.1, hi.2, j_b]
      have a1 : 0 ≤ from0 + i ∧ from0 + i < len := by omega
      by_cases hw : h q.toNat (from0 + i).toNat = name
      · refine Or.inr ⟨1, h, by decide, hc, 1, [i], [p, name, 0, from0, many, i], h, ?_, Or.inr (Or.inr ⟨rfl, rfl, i, rfl, i0, by omega⟩)⟩
        unfold lb_105
        simp only [es_20, es_10, es_16, s_if, ee_22, ee_14, n_bin, ee_7, n_aload, ee_5, ee_3, n_cmp, Option.bind_some, j_hd, List.headD_cons, n_sv, n_z0, List.getD_cons_zero, List.getD_cons_succ, j_cmp, hq, hl, e8]
        simp [hl, a1, hw, j_b]
      · refine Or.inr ⟨1, h, by decide, hc, 0, [], [p, name, 0, from0, many, i], h, ?_, Or.inl ⟨Or.inl rfl, [p, name, 0, from0, many, i + 1], h, ?_, ⟨i + 1, rfl, by omega, by omega, rfl⟩, ?_⟩⟩
        · unfold lb_105
          simp only [es_20, es_10, es_16, s_if, ee_22, ee_14, n_bin, ee_7, n_aload, ee_5, ee_3, n_cmp, Option.bind_some, j_hd, List.headD_cons, n_sv, n_z0, List.getD_cons_zero, List.getD_cons_succ, j_cmp, hq, hl, e8]
          simp [hl, a1, hw, j_b]
        · show some (0, [], [p, name, 0, from0, many, j32 (i + 1)], _) = _
          rw [j32_up i0 (by omega : i < len) hl2]
        · show (len - (i + 1)).toNat < (len - i).toNat
          omega
    · refine Or.inl ⟨h, ?_, rfl⟩
      unfold lc_105
      simp only [ee_25, n_ife, n_nz, ee_20, ee_14, n_bin, ee_10, ee_5, ee_3, n_cmp, n_alen, Option.bind_some, j_hd, List.headD_cons, n_sv, n_z0, List.getD_cons_zero, List.getD_cons_succ, hq, hl, j_cmp, e8]
      by_cases a1 : i < many
      · have a2 : ¬ from0 + i < len := fun k => hi ⟨a1, k⟩
        simp [a1, a2, j_b]
      · simp [a1, j_b]) K (len - 0).toNat [p, name, 0, from0, many, 0] hh ⟨0, rfl, Int.le_refl _, hl0, rfl⟩ (Nat.le_refl _) (by omega)
  have fin : ∀ (w : Int), (∃ en', evS xs L ck (evF xs L ck K cW g_M n) K cW bb_105 [p, name, 0, from0, many, 0] ((a_g3, c, d), hh) = some (1, [w], en', ((a_g3, c, d), hh))) → evF xs L ck K cW g_M (n + 1) 105 [p, name, from0, many] ((a_g3, c, d), hh) = some (1, [w], ((a_g3, c, d), hh)) := fun w ⟨en', k1⟩ => by
    rw [evF_s, gm_105]
    show (evS xs L ck (evF xs L ck K cW g_M n) K cW bb_105 [p, name, 0, from0, many, 0] ((a_g3, c, d), hh)).bind _ = _
    rw [k1, Option.bind_some]
    exact if_pos chk_self
  rcases go with ⟨en', h', e1, rfl⟩ | ⟨vs, en', h', e1, rfl, w, rfl, w0, w1⟩
  · refine ⟨-1, ⟨by decide, by decide⟩, fin _ ⟨en', ?_⟩⟩
    rw [lq_105, es_2, es_20, es_2, es_3, es_12, es_16, ee_1, ee_1]
    unfold s_seq
    dsimp only
    simp only [Option.bind_some, if_true]
    rw [show [p, name, 0, from0, many, 0].set (sx_n (sv 5)) (j_hd [if sx_n z0 = 0 then (sx_n z0 : Int) else -(sx_n z0 : Int)]) = [p, name, 0, from0, many, 0] from rfl, e1]
    rfl
  · refine ⟨w, ⟨by omega, by omega⟩, fin _ ⟨en', ?_⟩⟩
    rw [lq_105, es_2, es_20, es_2, es_3, es_12, es_16, ee_1, ee_1]
    unfold s_seq
    dsimp only
    simp only [Option.bind_some, if_true]
    rw [show [p, name, 0, from0, many, 0].set (sx_n (sv 5)) (j_hd [if sx_n z0 = 0 then (sx_n z0 : Int) else -(sx_n z0 : Int)]) = [p, name, 0, from0, many, 0] from rfl, e1]
    rfl
end LEAF3
