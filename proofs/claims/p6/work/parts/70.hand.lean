/-! ===== rows of numbers ===== -/
section ROW
variable {xs : Nat → Int} {L K c d n : Nat} {h : XH} {ck : Nat → List Nat} {F : XP} {cW : Nat → Nat → Int} {a b e : SX}
theorem ee_28 : evE xs L ck F cW (sx 28 a b e) = n_ife (evE xs L ck F cW a) (evE xs L ck F cW b) (evE xs L ck F cW e) := rfl
theorem es_8 {op : Nat} : evS xs L ck F K cW (sx 8 a b (so op e)) = s_astC op (evE xs L ck F cW a) (evE xs L ck F cW b) (evE xs L ck F cW e) := rfl
theorem gm_54 : g_M 54 = (0, 2, [17, 1], [1], bb_54) := rfl
theorem gm_55 : g_M 55 = (0, 3, [17, 1, 1], [], bb_55) := rfl
theorem gm_56 : g_M 56 = (0, 3, [17, 1, 1], [], bb_56) := rfl
theorem row_at {z : Nat → Int} {r : Int} (hr : TV z a_g3 17 r) : ∃ (q : Int) (len : Int), j_rf a_g3 r.toNat 0 = some q ∧ j_len a_g3 q.toNat = len ∧ 0 ≤ len ∧ len < 2147483648 ∧ (∀ j, c_ty g_fk a_g3 q.toNat j = 1) ∧ ∀ j, g_ro q.toNat j = false := by
  obtain ⟨r0, c, hc, he⟩ := hr.2.2.2.2.1 (by decide) (by decide)
  obtain ⟨q, hq, q0, c', hc', he'⟩ := ref_at (ci := 7) (k := 0) (kd := 6) hr (by decide) rfl (by decide) (by decide)
  obtain ⟨h1, h2⟩ := len_at hc'
  exact ⟨q, _, hq, h1, by omega, h2, fun j => (ty_arr hc' j).1 he', ro_arr hc (by omega) (by omega) hq hc' he' (by decide)⟩
theorem row_get {r i q len : Int} (hq : j_rf a_g3 r.toNat 0 = some q) (hl : j_len a_g3 q.toNat = len) : evF xs L ck K cW g_M (n + 1) 54 [r, i] ((a_g3, c, d), h) = some (1, [if 0 ≤ i ∧ i < len then h q.toNat i.toNat else 0], ((a_g3, c, d), h)) := by
  rw [evF_s, gm_54]
  have k1 : evS xs L ck (evF xs L ck K cW g_M n) K cW bb_54 [r, i] ((a_g3, c, d), h) = some (1, [if 0 ≤ i ∧ i < len then h q.toNat i.toNat else 0], [r, i], ((a_g3, c, d), h)) := by
    generalize evF xs L ck K cW g_M n = F
    unfold bb_54
    simp only [es_16, ee_28, ee_25, ee_21, ee_20, ee_10, ee_7, ee_5, ee_3, ee_1, n_ife, n_nz, n_cmp, n_alen, n_aload, Option.bind_some, j_hd, List.headD_cons, n_sv, n_z0, List.getD_cons_zero, List.getD_cons_succ, hq, hl, j_cmp, if_true]
    by_cases h1 : 0 ≤ i <;> by_cases h2 : i < len <;> simp [h1, h2, j_b, hq, hl]
  show (evS xs L ck (evF xs L ck K cW g_M n) K cW bb_54 [r, i] ((a_g3, c, d), h)).bind _ = _
  rw [k1, Option.bind_some]
  exact if_pos chk_self
theorem row_set {r i v q len : Int} (hq : j_rf a_g3 r.toNat 0 = some q) (hl : j_len a_g3 q.toNat = len) : evF xs L ck K cW g_M (n + 1) 55 [r, i, v] ((a_g3, c, d), h) = some (1, [], ((a_g3, c, d), if 0 ≤ i ∧ i < len then j_up h q.toNat i.toNat v else h)) := by
  rw [evF_s, gm_55]
  have k1 : evS xs L ck (evF xs L ck K cW g_M n) K cW bb_55 [r, i, v] ((a_g3, c, d), h) = some (1, [], [r, i, v], ((a_g3, c, d), if 0 ≤ i ∧ i < len then j_up h q.toNat i.toNat v else h)) := by
    generalize evF xs L ck K cW g_M n = F
    unfold bb_55
    simp only [es_2, es_10, es_20, es_7, es_17, s_seq, s_if, s_ast, ee_25, ee_21, ee_20, ee_10, ee_5, ee_3, ee_1, n_ife, n_nz, n_cmp, n_alen, Option.bind_some, j_hd, List.headD_cons, n_sv, n_z0, List.getD_cons_zero, List.getD_cons_succ, hq, hl, j_cmp, if_true]
    by_cases h1 : 0 ≤ i <;> by_cases h2 : i < len <;> simp [h1, h2, j_b, hq, hl]
  show (evS xs L ck (evF xs L ck K cW g_M n) K cW bb_55 [r, i, v] ((a_g3, c, d), h)).bind _ = _
  rw [k1, Option.bind_some]
  exact if_pos chk_self
theorem row_add {r i v q len : Int} (hq : j_rf a_g3 r.toNat 0 = some q) (hl : j_len a_g3 q.toNat = len) : evF xs L ck K cW g_M (n + 1) 56 [r, i, v] ((a_g3, c, d), h) = some (1, [], ((a_g3, c, d), if 0 ≤ i ∧ i < len then j_up h q.toNat i.toNat (j_iop 0 (h q.toNat i.toNat) v) else h)) := by
  rw [evF_s, gm_56]
  have k1 : evS xs L ck (evF xs L ck K cW g_M n) K cW bb_56 [r, i, v] ((a_g3, c, d), h) = some (1, [], [r, i, v], ((a_g3, c, d), if 0 ≤ i ∧ i < len then j_up h q.toNat i.toNat (j_iop 0 (h q.toNat i.toNat) v) else h)) := by
    generalize evF xs L ck K cW g_M n = F
    unfold bb_56
    simp only [es_2, es_10, es_20, es_8, es_17, s_seq, s_if, s_astC, ee_25, ee_21, ee_20, ee_10, ee_5, ee_3, ee_1, n_ife, n_nz, n_cmp, n_alen, Option.bind_some, j_hd, List.headD_cons, n_sv, n_z0, List.getD_cons_zero, List.getD_cons_succ, hq, hl, j_cmp, if_true]
    by_cases h1 : 0 ≤ i <;> by_cases h2 : i < len <;> simp [h1, h2, j_b, hq, hl]
  show (evS xs L ck (evF xs L ck K cW g_M n) K cW bb_56 [r, i, v] ((a_g3, c, d), h)).bind _ = _
  rw [k1, Option.bind_some]
  exact if_pos chk_self
theorem VL2 {z : Nat → Int} {g : XS} {s t : Nat} {av : List Int} (h : VL z g [s, t] av) : ∃ v w, av = [v, w] ∧ TV z g s v ∧ TV z g t w := by
  match av, h with
  | [v, w], h => exact ⟨v, w, rfl, h.1, h.2.1⟩
theorem VL3 {z : Nat → Int} {g : XS} {s t u : Nat} {av : List Int} (h : VL z g [s, t, u] av) : ∃ v w x, av = [v, w, x] ∧ TV z g s v ∧ TV z g t w ∧ TV z g u x := by
  match av, h with
  | [v, w, x], h => exact ⟨v, w, x, rfl, h.1, h.2.1, h.2.2.1⟩
theorem up_i {q k : Nat} {v : Int} {hh : XH} (ht : ∀ j, c_ty g_fk a_g3 q j = 1) (hH : HT g_fk a_g3 hh) (hv : InI v) : HT g_fk a_g3 (j_up hh q k v) := hH.up (fun _ => hv) (fun e => absurd ((ht _).symm.trans e) (by decide)) (fun e => absurd ((ht _).symm.trans e) (by decide))
theorem tot_54 : TotF (g_T 0) (a_g3, c, d) g_ro (evF xs L ck K cW g_M (n + 1)) 54 := by
  intro av hh hH hv
  obtain ⟨r, i, rfl, hr, hi⟩ := VL2 (s := 17) (t := 1) hv
  obtain ⟨q, len, hq, hl, l0, l1, ht, hro⟩ := row_at hr
  refine ⟨_, hh, row_get hq hl, hH, FR.rf, ?_, trivial⟩
  refine TV.int ?_
  split
  · exact (hH q.toNat i.toNat).1 (ht _)
  · exact in_0
theorem tot_55 : TotF (g_T 0) (a_g3, c, d) g_ro (evF xs L ck K cW g_M (n + 1)) 55 := by
  intro av hh hH hv
  obtain ⟨r, i, v, rfl, hr, hi, hv2⟩ := VL3 (s := 17) (t := 1) (u := 1) hv
  obtain ⟨q, len, hq, hl, l0, l1, ht, hro⟩ := row_at hr
  refine ⟨_, _, row_set hq hl, ?_, ?_, trivial⟩
  · split
    · exact up_i ht hH (hv2.1 rfl)
    · exact hH
  · split
    · exact FR.up (hro _)
    · exact FR.rf
theorem tot_56 : TotF (g_T 0) (a_g3, c, d) g_ro (evF xs L ck K cW g_M (n + 1)) 56 := by
  intro av hh hH hv
  obtain ⟨r, i, v, rfl, hr, hi, hv2⟩ := VL3 (s := 17) (t := 1) (u := 1) hv
  obtain ⟨q, len, hq, hl, l0, l1, ht, hro⟩ := row_at hr
  refine ⟨_, _, row_add hq hl, ?_, ?_, trivial⟩
  · split
    · exact up_i ht hH (iop_in _ _ _)
    · exact hH
  · split
    · exact FR.up (hro _)
    · exact FR.rf
end ROW
