/-! ===== the reference's methods by hand_w: who, judged ===== -/
section HAC
variable {P : Int × Int} {g : Nat × Nat} {xs : Nat → Int} {L K n : Nat} {ck : Nat → List Nat} {cW : Nat → Nat → Int} {h : XH} {J : XH → Prop}
theorem seen_n (hQ : QK P (r_T 0) J h) : 0 ≤ h 194 404 ∧ h 194 404 ≤ 8 := by
  have k4 : IV P (1, 0, 8) (h 194 404) := s_cell (j := 0) (i := 404) hQ (r := 6) (x := (404, 405, (1, 0, 8))) rfl (by decide) (by decide) (by decide)
  exact ⟨k4.1, k4.2.1⟩
theorem seen_reg : (List.range 8).all (fun k => decide ((r_A 194).2.2[39 + 3 * k]? = some (405 + 3 * k, 406 + 3 * k, (1, 0, 11)))) = true := by decide +kernel
theorem seen_sl (hQ : QK P (r_T 0) J h) {k : Nat} (hk : k < 8) : IV P (1, 0, 11) (h 194 (405 + 3 * k)) := by
  have h1 := List.all_eq_true.mp seen_reg k (List.mem_range.mpr hk)
  rw [decide_eq_true_eq] at h1
  have a := s_cell (j := 0) (i := 405 + 3 * k) hQ h1 (by dsimp only; omega) (by dsimp only; omega) (by decide)
  rw [show 429 * 0 + (405 + 3 * k) = 405 + 3 * k by omega] at a
  exact a
theorem t_305 (hJ : JS (r_T 0) J) (hK_w : 4294967300 ≤ K) (c227 : TotR P (r_T 0) J g (evF xs L ck K cW g_M n) 227) (c254 : TotR P (r_T 0) J g (evF xs L ck K cW g_M n) 254) (c257 : TotR P (r_T 0) J g (evF xs L ck K cW g_M n) 257) : TotR P (r_T 0) J g (evF xs L ck K cW g_M (n + 1)) 305 := by
  refine tot_hand gm_305 rp_305 rr_305 ru_305 fun av h hQ hv => ?_
  obtain ⟨x, rfl, hx⟩ := il1 hv
  obtain rfl : x = 182 := hx
  show wS _ _ K bb_305 [182, 0, 0, 0, 0, 0] h _
  have hfr := fr_all (xs := xs) (L := L) (ck := ck) (K := K) (cW := cW) n
  generalize evF xs L ck K cW g_M n = F at c227 c254 c257 hfr ⊢
  unfold bb_305
  simp only [wf_4, wf_40, wf_5, wf_50, wf_6, wl_1, wt_1, wu_1, wa_1, wl_4, wt_4, wu_4, wa_4, wl_5, wt_5, wu_5, wa_5, wl_6, wt_6, wu_6, wa_6, wl_9, wt_9, wu_9, wa_9, wl_10, wt_10, wu_10, wa_10, wl_11, wt_11, wu_11, wa_11, wl_13, wt_13, wu_13, wa_13, wl_14, wt_14, wu_14, wa_14, wl_15, wt_15, wu_15, wa_15, wl_16, wt_16, wu_16, wa_16, wl_17, wt_17, wu_17, wa_17, wl_20, wt_20, wu_20, wa_20, wl_21, wt_21, wu_21, wa_21, wl_22, wt_22, wu_22, wa_22, wl_23, wt_23, wu_23, wa_23, wl_24, wt_24, wu_24, wa_24, wl_26, wt_26, wu_26, wa_26, wl_27, wt_27, wu_27, wa_27, wl_28, wt_28, wu_28, wa_28, we_1, we_3, we_10, we_14, we_15, we_16, we_17, we_18, we_20, we_21, we_22, we_24, we_25, we_26, we_27, we_28, we_30, we_31, we_32, wc_20, wc_21, wc_22, wc_24, wc_25, wc_26, wc_27, wc_3, wc_4, wc_7, wc_28, wc_32, ws_1, ws_2, ws_3, ws_4, ws_9, ws_10, ws_11, ws_14, ws_15, ws_16, ws_27, ws_17, ws_20, ws_28, kc_0, kc_1, kn_1, kc_2, kn_2, kc_3, kc_4, kc_5, kc_6, kc_7, kc_8, kc_9, kc_10, kc_12, kc_13, kc_14, kc_16, kc_17, kc_18, kc_19, kc_20, kc_21, kc_22, kc_24, kc_28, kc_30, kc_32, kc_37, kc_40, kc_41, kc_42, kc_43, kc_45, kc_48, kc_56, kc_57, kc_59, kc_60, kc_61, kc_64, kc_73, kc_78, kc_91, kc_95, kc_96, kc_97, kc_98, kc_99, kc_100, kc_112, kc_122, kc_125, kc_126, kc_150, kc_162, kc_163, kc_168, kc_186, kc_190, kc_200, kc_250, kc_255, kc_355, kc_356, kc_404, kc_405, kc_429, kc_573, kc_999, kc_1000, kc_1002, kc_1100, kc_1891, kc_2200, kc_4719, kc_4869, kc_4881, kc_5148, kc_9999, kn_9999, kc_10000, kc_12345, kc_19741, kc_25433, kc_65536, kc_320403, kc_628412, kc_629093, kc_660401, kc_679843, kc_918640, kc_979410, kc_1178088, kc_6232410, kc_24644941, kc_36238189, kc_38270444, kc_392531318, kc_425693491, kc_1103515245, kc_1342154595, kc_2147483648, kc_42328242873, kc_891704255789, kc_1722105685577, kc_1858726030364, ct_0, ct_1, ct_2, ct_3, ct_4, ct_5, cf_0, cf_1, cf_2, cf_3, cf_4, cf_5, w_ty6, w_ty7, m_sv, m_z0, m_hd, m_g0, m_gs, m_s0, m_ss, m_ap, m_an, forall_const, true_and, and_true, ne_eq, not_true_eq_false, not_false_eq_true, false_implies, true_implies, implies_true, eq_self, reduceCtorEq, Nat.reduceDiv, Nat.reduceMod, Int.reduceToNat, or_true, true_or, or_false, false_or, or_self, m_it, m_if, m_c1, m_01, m_02, m_03, m_04, m_10, m_12, m_13, m_14, m_20, m_21, m_23, m_24, m_30, m_31, m_32, m_34, m_40, m_41, m_42, m_43]
  obtain ⟨v1_w, h1, a1_w, a2, a3, -⟩ := use1 c227 rp_227 rr_227 hQ il_this
  refine ⟨[v1_w], h1, a1_w, ?_⟩
  refine w_lp (fun en h' => ∃ z k i s w : Int, en = [182, z, k, i, s, w] ∧ 0 ≤ k ∧ k ≤ 8 ∧ InI z ∧ QK P (r_T 0) J h' ∧ KR (r_T 0) h h') (fun en _ => (8 - en.getD 2 0).toNat) ⟨_, 0, 0, 0, 0, rfl, by omega, by omega, iop_in _ _ _, a2, a3⟩ ?_
  rintro en h2 ⟨z, k, i, s, w, rfl, k0_w, k1_w, hz, q1_w, q2_w⟩
  refine ⟨?_, ?_⟩
  · show (8 - k).toNat < K
    omega
  simp only [wf_4, wf_40, wf_5, wf_50, wf_6, wl_1, wt_1, wu_1, wa_1, wl_4, wt_4, wu_4, wa_4, wl_5, wt_5, wu_5, wa_5, wl_6, wt_6, wu_6, wa_6, wl_9, wt_9, wu_9, wa_9, wl_10, wt_10, wu_10, wa_10, wl_11, wt_11, wu_11, wa_11, wl_13, wt_13, wu_13, wa_13, wl_14, wt_14, wu_14, wa_14, wl_15, wt_15, wu_15, wa_15, wl_16, wt_16, wu_16, wa_16, wl_17, wt_17, wu_17, wa_17, wl_20, wt_20, wu_20, wa_20, wl_21, wt_21, wu_21, wa_21, wl_22, wt_22, wu_22, wa_22, wl_23, wt_23, wu_23, wa_23, wl_24, wt_24, wu_24, wa_24, wl_26, wt_26, wu_26, wa_26, wl_27, wt_27, wu_27, wa_27, wl_28, wt_28, wu_28, wa_28, we_1, we_3, we_10, we_14, we_15, we_16, we_17, we_18, we_20, we_21, we_22, we_24, we_25, we_26, we_27, we_28, we_30, we_31, we_32, wc_20, wc_21, wc_22, wc_24, wc_25, wc_26, wc_27, wc_3, wc_4, wc_7, wc_28, wc_32, ws_1, ws_2, ws_3, ws_4, ws_9, ws_10, ws_11, ws_14, ws_15, ws_16, ws_27, ws_17, ws_20, ws_28, kc_0, kc_1, kn_1, kc_2, kn_2, kc_3, kc_4, kc_5, kc_6, kc_7, kc_8, kc_9, kc_10, kc_12, kc_13, kc_14, kc_16, kc_17, kc_18, kc_19, kc_20, kc_21, kc_22, kc_24, kc_28, kc_30, kc_32, kc_37, kc_40, kc_41, kc_42, kc_43, kc_45, kc_48, kc_56, kc_57, kc_59, kc_60, kc_61, kc_64, kc_73, kc_78, kc_91, kc_95, kc_96, kc_97, kc_98, kc_99, kc_100, kc_112, kc_122, kc_125, kc_126, kc_150, kc_162, kc_163, kc_168, kc_186, kc_190, kc_200, kc_250, kc_255, kc_355, kc_356, kc_404, kc_405, kc_429, kc_573, kc_999, kc_1000, kc_1002, kc_1100, kc_1891, kc_2200, kc_4719, kc_4869, kc_4881, kc_5148, kc_9999, kn_9999, kc_10000, kc_12345, kc_19741, kc_25433, kc_65536, kc_320403, kc_628412, kc_629093, kc_660401, kc_679843, kc_918640, kc_979410, kc_1178088, kc_6232410, kc_24644941, kc_36238189, kc_38270444, kc_392531318, kc_425693491, kc_1103515245, kc_1342154595, kc_2147483648, kc_42328242873, kc_891704255789, kc_1722105685577, kc_1858726030364, ct_0, ct_1, ct_2, ct_3, ct_4, ct_5, cf_0, cf_1, cf_2, cf_3, cf_4, cf_5, w_ty6, w_ty7, m_sv, m_z0, m_hd, m_g0, m_gs, m_s0, m_ss, m_ap, m_an, forall_const, true_and, and_true, ne_eq, not_true_eq_false, not_false_eq_true, false_implies, true_implies, implies_true, eq_self, reduceCtorEq, Nat.reduceDiv, Nat.reduceMod, Int.reduceToNat, or_true, true_or, or_false, false_or, or_self, m_it, m_if, m_c1, m_01, m_02, m_03, m_04, m_10, m_12, m_13, m_14, m_20, m_21, m_23, m_24, m_30, m_31, m_32, m_34, m_40, m_41, m_42, m_43]
  have b404 : (0 : Int) ≤ 404 ∧ (404 : Int) < 5148 := by decide
  have m := seen_n q1_w
  refine ⟨b404, fun hk => ?_, fun _ => ⟨q1_w, q2_w, IV.top hz, trivial⟩⟩
  have e1_w : j_iop 0 405 (j_iop 2 3 k) = 405 + 3 * k := by simp (disch := omega) only [jmul, jadd]
  rw [e1_w]
  have e2_w : (405 + 3 * k).toNat = 405 + 3 * k.toNat := by omega
  have bi : 0 ≤ 405 + 3 * k ∧ 405 + 3 * k < 5148 := ⟨by omega, by omega⟩
  have bi1 : 0 ≤ 405 + 3 * k + 1 ∧ 405 + 3 * k + 1 < 5148 := ⟨by omega, by omega⟩
  have bi2 : 0 ≤ 405 + 3 * k + 2 ∧ 405 + 3 * k + 2 < 5148 := ⟨by omega, by omega⟩
  rw [e2_w]
  have hsl := seen_sl q1_w (k := k.toNat) (by omega)
  obtain ⟨h3, b1, b2, b3⟩ := use0 (av := [182, 0, h2 194 (405 + 3 * k.toNat)]) c254 rp_254 rr_254 q1_w ⟨rfl, iv_b0, hsl, trivial⟩
  have b6 := fq hfr 194 b1 (by decide +kernel) rfl
  refine ⟨bi, [], h3, b1, ?_⟩
  refine w_lp (fun en h' => ∃ z s w : Int, en = [182, z, k, 405 + 3 * k, s, w] ∧ 0 ≤ s ∧ s ≤ 4 ∧ InI z ∧ QK P (r_T 0) J h' ∧ KR (r_T 0) h h') (fun en _ => (4 - en.getD 4 0).toNat) ⟨z, 0, w, rfl, by omega, by omega, hz, b2, q2_w.tr b3⟩ ?_
  rintro en h4 ⟨z, s, w, rfl, s0, s1_w, hz, q3_w, q4_w⟩
  refine ⟨?_, ?_⟩
  · show (4 - s).toNat < K
    omega
  simp only [wf_4, wf_40, wf_5, wf_50, wf_6, wl_1, wt_1, wu_1, wa_1, wl_4, wt_4, wu_4, wa_4, wl_5, wt_5, wu_5, wa_5, wl_6, wt_6, wu_6, wa_6, wl_9, wt_9, wu_9, wa_9, wl_10, wt_10, wu_10, wa_10, wl_11, wt_11, wu_11, wa_11, wl_13, wt_13, wu_13, wa_13, wl_14, wt_14, wu_14, wa_14, wl_15, wt_15, wu_15, wa_15, wl_16, wt_16, wu_16, wa_16, wl_17, wt_17, wu_17, wa_17, wl_20, wt_20, wu_20, wa_20, wl_21, wt_21, wu_21, wa_21, wl_22, wt_22, wu_22, wa_22, wl_23, wt_23, wu_23, wa_23, wl_24, wt_24, wu_24, wa_24, wl_26, wt_26, wu_26, wa_26, wl_27, wt_27, wu_27, wa_27, wl_28, wt_28, wu_28, wa_28, we_1, we_3, we_10, we_14, we_15, we_16, we_17, we_18, we_20, we_21, we_22, we_24, we_25, we_26, we_27, we_28, we_30, we_31, we_32, wc_20, wc_21, wc_22, wc_24, wc_25, wc_26, wc_27, wc_3, wc_4, wc_7, wc_28, wc_32, ws_1, ws_2, ws_3, ws_4, ws_9, ws_10, ws_11, ws_14, ws_15, ws_16, ws_27, ws_17, ws_20, ws_28, kc_0, kc_1, kn_1, kc_2, kn_2, kc_3, kc_4, kc_5, kc_6, kc_7, kc_8, kc_9, kc_10, kc_12, kc_13, kc_14, kc_16, kc_17, kc_18, kc_19, kc_20, kc_21, kc_22, kc_24, kc_28, kc_30, kc_32, kc_37, kc_40, kc_41, kc_42, kc_43, kc_45, kc_48, kc_56, kc_57, kc_59, kc_60, kc_61, kc_64, kc_73, kc_78, kc_91, kc_95, kc_96, kc_97, kc_98, kc_99, kc_100, kc_112, kc_122, kc_125, kc_126, kc_150, kc_162, kc_163, kc_168, kc_186, kc_190, kc_200, kc_250, kc_255, kc_355, kc_356, kc_404, kc_405, kc_429, kc_573, kc_999, kc_1000, kc_1002, kc_1100, kc_1891, kc_2200, kc_4719, kc_4869, kc_4881, kc_5148, kc_9999, kn_9999, kc_10000, kc_12345, kc_19741, kc_25433, kc_65536, kc_320403, kc_628412, kc_629093, kc_660401, kc_679843, kc_918640, kc_979410, kc_1178088, kc_6232410, kc_24644941, kc_36238189, kc_38270444, kc_392531318, kc_425693491, kc_1103515245, kc_1342154595, kc_2147483648, kc_42328242873, kc_891704255789, kc_1722105685577, kc_1858726030364, ct_0, ct_1, ct_2, ct_3, ct_4, ct_5, cf_0, cf_1, cf_2, cf_3, cf_4, cf_5, w_ty6, w_ty7, m_sv, m_z0, m_hd, m_g0, m_gs, m_s0, m_ss, m_ap, m_an, forall_const, true_and, and_true, ne_eq, not_true_eq_false, not_false_eq_true, false_implies, true_implies, implies_true, eq_self, reduceCtorEq, Nat.reduceDiv, Nat.reduceMod, Int.reduceToNat, or_true, true_or, or_false, false_or, or_self, m_it, m_if, m_c1, m_01, m_02, m_03, m_04, m_10, m_12, m_13, m_14, m_20, m_21, m_23, m_24, m_30, m_31, m_32, m_34, m_40, m_41, m_42, m_43]
  obtain ⟨v2, h5, d1_w, d2_w, d3_w, d4_w, d5, -⟩ := use1 c227 rp_227 rr_227 q3_w il_this
  refine ⟨[v2], h5, d1_w, fun hs => ?_, fun _ => ?_⟩
  · simp only [m_hd] at hs
    have f1_w : j_iop 0 (405 + 3 * k) 1 = 405 + 3 * k + 1 := jadd (by omega) (by omega)
    have f2_w : j_iop 0 (405 + 3 * k) 2 = 405 + 3 * k + 2 := jadd (by omega) (by omega)
    rw [f1_w, f2_w, e2_w, jinc (by omega) (by omega)]
    have hs5 := seen_sl d2_w (k := k.toNat) (by omega)
    obtain ⟨v3, h6, x1_w, x2_w, x3, x4_w⟩ := use1 (av := [182, 0, s, h5 194 (405 + 3 * k.toNat)]) c257 rp_257 rr_257 d2_w ⟨rfl, iv_b0, IV.top ⟨by omega, by omega⟩, hs5, trivial⟩
    have fin_w : ∀ (z' w' : Int), InI z' → (∃ z_1 s_1 w_1 : Int, [182, z', k, 405 + 3 * k, s + 1, w'] = [182, z_1, k, 405 + 3 * k, s_1, w_1] ∧ 0 ≤ s_1 ∧ s_1 ≤ 4 ∧ InI z_1 ∧ QK P (r_T 0) J h6 ∧ KR (r_T 0) h h6) ∧ (4 - (s + 1)).toNat < (4 - s).toNat := fun z' w' hz' => ⟨⟨z', s + 1, w', rfl, by omega, by omega, hz', x2_w, (q4_w.tr d3_w).tr x3⟩, by omega⟩
    exact ⟨bi, [v3], h6, x1_w, bi1, fun _ => ⟨bi2, fun _ => fin_w _ _ (iop_in _ _ _), fun _ => ⟨fun _ => fin_w _ _ (iop_in _ _ _), fun _ => fin_w _ _ (iop_in _ _ _)⟩⟩, fun _ => ⟨bi2, fun _ => ⟨fun _ => fin_w _ _ (iop_in _ _ _), fun _ => fin_w _ _ (iop_in _ _ _)⟩, fun _ => fin_w _ _ (iop_in _ _ _)⟩⟩
  · rw [jinc (by omega) (by omega)]
    refine ⟨⟨z, k + 1, _, s, w, rfl, by omega, by omega, hz, d2_w, q4_w.tr d3_w⟩, ?_⟩
    show (8 - (k + 1)).toNat < (8 - k).toNat
    omega
theorem q_lines (hQ : QK P (r_T 0) J h) : 0 ≤ h 191 0 ∧ h 191 0 ≤ 30 := by
  have k : IV P (1, 0, 30) (h 191 0) := q_cell hQ (q := 191) (r := 0) (x := (0, 1, (1, 0, 30))) (by decide) rfl rfl (by decide) (by decide)
  exact ⟨k.1, k.2.1⟩
theorem t_273 (hK_w : 4294967300 ≤ K) (c198 : TotW g (evF xs L ck K cW g_M n)) (c240 : TotR P (r_T 0) (RJ P) g (evF xs L ck K cW g_M n) 240) (c264 : TotR P (r_T 0) (RJ P) g (evF xs L ck K cW g_M n) 264) (c266 : TotR P (r_T 0) (RJ P) g (evF xs L ck K cW g_M n) 266) (c259 : TotR P (r_T 0) (RJ P) g (evF xs L ck K cW g_M n) 259) : TotR P (r_T 0) (RJ P) g (evF xs L ck K cW g_M (n + 1)) 273 := by
  have hJ := rj_js (P := P)
  refine tot_hand gm_273 rp_273 rr_273 ru_273 fun av h hQ hv => ?_
  obtain ⟨x, a, rfl, hx, ha_w⟩ := il2 hv
  obtain rfl : x = 182 := hx
  show wS _ _ K bb_273 [182, a, 0, 0, 0] h _
  generalize evF xs L ck K cW g_M n = F at c198 c240 c264 c266 c259 ⊢
  unfold bb_273
  simp only [wf_4, wf_40, wf_5, wf_50, wf_6, wl_1, wt_1, wu_1, wa_1, wl_4, wt_4, wu_4, wa_4, wl_5, wt_5, wu_5, wa_5, wl_6, wt_6, wu_6, wa_6, wl_9, wt_9, wu_9, wa_9, wl_10, wt_10, wu_10, wa_10, wl_11, wt_11, wu_11, wa_11, wl_13, wt_13, wu_13, wa_13, wl_14, wt_14, wu_14, wa_14, wl_15, wt_15, wu_15, wa_15, wl_16, wt_16, wu_16, wa_16, wl_17, wt_17, wu_17, wa_17, wl_20, wt_20, wu_20, wa_20, wl_21, wt_21, wu_21, wa_21, wl_22, wt_22, wu_22, wa_22, wl_23, wt_23, wu_23, wa_23, wl_24, wt_24, wu_24, wa_24, wl_26, wt_26, wu_26, wa_26, wl_27, wt_27, wu_27, wa_27, wl_28, wt_28, wu_28, wa_28, we_1, we_3, we_10, we_14, we_15, we_16, we_17, we_18, we_20, we_21, we_22, we_24, we_25, we_26, we_27, we_28, we_30, we_31, we_32, wc_20, wc_21, wc_22, wc_24, wc_25, wc_26, wc_27, wc_3, wc_4, wc_7, wc_28, wc_32, ws_1, ws_2, ws_3, ws_4, ws_9, ws_10, ws_11, ws_14, ws_15, ws_16, ws_27, ws_17, ws_20, ws_28, kc_0, kc_1, kn_1, kc_2, kn_2, kc_3, kc_4, kc_5, kc_6, kc_7, kc_8, kc_9, kc_10, kc_12, kc_13, kc_14, kc_16, kc_17, kc_18, kc_19, kc_20, kc_21, kc_22, kc_24, kc_28, kc_30, kc_32, kc_37, kc_40, kc_41, kc_42, kc_43, kc_45, kc_48, kc_56, kc_57, kc_59, kc_60, kc_61, kc_64, kc_73, kc_78, kc_91, kc_95, kc_96, kc_97, kc_98, kc_99, kc_100, kc_112, kc_122, kc_125, kc_126, kc_150, kc_162, kc_163, kc_168, kc_186, kc_190, kc_200, kc_250, kc_255, kc_355, kc_356, kc_404, kc_405, kc_429, kc_573, kc_999, kc_1000, kc_1002, kc_1100, kc_1891, kc_2200, kc_4719, kc_4869, kc_4881, kc_5148, kc_9999, kn_9999, kc_10000, kc_12345, kc_19741, kc_25433, kc_65536, kc_320403, kc_628412, kc_629093, kc_660401, kc_679843, kc_918640, kc_979410, kc_1178088, kc_6232410, kc_24644941, kc_36238189, kc_38270444, kc_392531318, kc_425693491, kc_1103515245, kc_1342154595, kc_2147483648, kc_42328242873, kc_891704255789, kc_1722105685577, kc_1858726030364, ct_0, ct_1, ct_2, ct_3, ct_4, ct_5, cf_0, cf_1, cf_2, cf_3, cf_4, cf_5, w_ty6, w_ty7, m_sv, m_z0, m_hd, m_g0, m_gs, m_s0, m_ss, m_ap, m_an, forall_const, true_and, and_true, ne_eq, not_true_eq_false, not_false_eq_true, false_implies, true_implies, implies_true, eq_self, reduceCtorEq, Nat.reduceDiv, Nat.reduceMod, Int.reduceToNat, or_true, true_or, or_false, false_or, or_self, m_it, m_if, m_c1, m_01, m_02, m_03, m_04, m_10, m_12, m_13, m_14, m_20, m_21, m_23, m_24, m_30, m_31, m_32, m_34, m_40, m_41, m_42, m_43]
  obtain ⟨z1, z2⟩ := th0 hQ hJ
  obtain ⟨y1, y2⟩ := fd_QK hQ hJ (k := 0) (v := 1) (Or.inl rfl) ⟨by decide, by decide, in_1⟩
  refine ⟨_, h, c198 a 0 2 h, fun _ => ⟨fun k => absurd k (by rw [up_eq]; decide), fun _ => ?_⟩, fun _ => ⟨fun _ => ⟨y1, y2, IV.top in_0, trivial⟩, fun k => absurd k (by rw [up_eq]; decide)⟩⟩
  obtain ⟨h1, a1_w, a2, a3⟩ := use0 (av := [182, 4719]) c240 rp_240 rr_240 z1 ⟨rfl, iv_trial, trivial⟩
  refine ⟨[], h1, a1_w, ?_⟩
  have hW := hQ.2.2.2.2.2
  have hl := q_lines hQ
  refine w_lp (fun en h' => ∃ w n i : Int, en = [182, a, w, n, i] ∧ 0 ≤ n ∧ n ≤ 30 ∧ InI w ∧ QK P (r_T 0) (RJ P) h' ∧ KR (r_T 0) h h') (fun en _ => (30 - en.getD 3 0).toNat) ⟨-1, 0, 0, rfl, by omega, by omega, in_m1, a2, z2.tr a3⟩ ?_
  rintro en h2 ⟨w, n, i, rfl, n0_w, n1_w, hw, q1_w, q2_w⟩
  refine ⟨?_, ?_⟩
  · show (30 - n).toNat < K
    omega
  simp only [wf_4, wf_40, wf_5, wf_50, wf_6, wl_1, wt_1, wu_1, wa_1, wl_4, wt_4, wu_4, wa_4, wl_5, wt_5, wu_5, wa_5, wl_6, wt_6, wu_6, wa_6, wl_9, wt_9, wu_9, wa_9, wl_10, wt_10, wu_10, wa_10, wl_11, wt_11, wu_11, wa_11, wl_13, wt_13, wu_13, wa_13, wl_14, wt_14, wu_14, wa_14, wl_15, wt_15, wu_15, wa_15, wl_16, wt_16, wu_16, wa_16, wl_17, wt_17, wu_17, wa_17, wl_20, wt_20, wu_20, wa_20, wl_21, wt_21, wu_21, wa_21, wl_22, wt_22, wu_22, wa_22, wl_23, wt_23, wu_23, wa_23, wl_24, wt_24, wu_24, wa_24, wl_26, wt_26, wu_26, wa_26, wl_27, wt_27, wu_27, wa_27, wl_28, wt_28, wu_28, wa_28, we_1, we_3, we_10, we_14, we_15, we_16, we_17, we_18, we_20, we_21, we_22, we_24, we_25, we_26, we_27, we_28, we_30, we_31, we_32, wc_20, wc_21, wc_22, wc_24, wc_25, wc_26, wc_27, wc_3, wc_4, wc_7, wc_28, wc_32, ws_1, ws_2, ws_3, ws_4, ws_9, ws_10, ws_11, ws_14, ws_15, ws_16, ws_27, ws_17, ws_20, ws_28, kc_0, kc_1, kn_1, kc_2, kn_2, kc_3, kc_4, kc_5, kc_6, kc_7, kc_8, kc_9, kc_10, kc_12, kc_13, kc_14, kc_16, kc_17, kc_18, kc_19, kc_20, kc_21, kc_22, kc_24, kc_28, kc_30, kc_32, kc_37, kc_40, kc_41, kc_42, kc_43, kc_45, kc_48, kc_56, kc_57, kc_59, kc_60, kc_61, kc_64, kc_73, kc_78, kc_91, kc_95, kc_96, kc_97, kc_98, kc_99, kc_100, kc_112, kc_122, kc_125, kc_126, kc_150, kc_162, kc_163, kc_168, kc_186, kc_190, kc_200, kc_250, kc_255, kc_355, kc_356, kc_404, kc_405, kc_429, kc_573, kc_999, kc_1000, kc_1002, kc_1100, kc_1891, kc_2200, kc_4719, kc_4869, kc_4881, kc_5148, kc_9999, kn_9999, kc_10000, kc_12345, kc_19741, kc_25433, kc_65536, kc_320403, kc_628412, kc_629093, kc_660401, kc_679843, kc_918640, kc_979410, kc_1178088, kc_6232410, kc_24644941, kc_36238189, kc_38270444, kc_392531318, kc_425693491, kc_1103515245, kc_1342154595, kc_2147483648, kc_42328242873, kc_891704255789, kc_1722105685577, kc_1858726030364, ct_0, ct_1, ct_2, ct_3, ct_4, ct_5, cf_0, cf_1, cf_2, cf_3, cf_4, cf_5, w_ty6, w_ty7, m_sv, m_z0, m_hd, m_g0, m_gs, m_s0, m_ss, m_ap, m_an, forall_const, true_and, and_true, ne_eq, not_true_eq_false, not_false_eq_true, false_implies, true_implies, implies_true, eq_self, reduceCtorEq, Nat.reduceDiv, Nat.reduceMod, Int.reduceToNat, or_true, true_or, or_false, false_or, or_self, m_it, m_if, m_c1, m_01, m_02, m_03, m_04, m_10, m_12, m_13, m_14, m_20, m_21, m_23, m_24, m_30, m_31, m_32, m_34, m_40, m_41, m_42, m_43]
  have e191 : ∀ k, h2 191 k = h 191 k := fun k => q2_w 191 k rfl
  have e1_w : ∀ (h3 : XH), KR (r_T 0) h h3 → ∀ k, h3 191 k = h 191 k := fun h3 k3 k => k3 191 k rfl
  simp only [e191]
  have f1_w : n < h 191 0 → j_iop 0 1 (j_iop 2 4 n) = 1 + 4 * n := fun k => by simp (disch := omega) only [jmul, jadd]
  have f2_w : (1 + 4 * n).toNat = 1 + 4 * n.toNat := by omega
  refine ⟨by decide, fun hn => ?_, fun hn => ?_⟩
  · rw [f1_w hn, f2_w, show j_iop 0 (1 + 4 * n) 1 = 2 + 4 * n from (jadd (by omega) (by omega)).trans (by omega), show j_iop 0 (1 + 4 * n) 2 = 3 + 4 * n from (jadd (by omega) (by omega)).trans (by omega), show j_iop 0 (1 + 4 * n) 3 = 4 + 4 * n from (jadd (by omega) (by omega)).trans (by omega), show (2 + 4 * n).toNat = 2 + 4 * n.toNat by omega, show (3 + 4 * n).toNat = 3 + 4 * n.toNat by omega, show (4 + 4 * n).toNat = 4 + 4 * n.toNat by omega]
    obtain ⟨l0, l1, l2⟩ := hW n.toNat (by omega)
    generalize h 191 (1 + 4 * n.toNat) = A at l0 l1 l2 ⊢
    generalize h 191 (2 + 4 * n.toNat) = B at l0 l1 l2 ⊢
    generalize h 191 (3 + 4 * n.toNat) = C at l0 l1 l2 ⊢
    generalize h 191 (4 + 4 * n.toNat) = D at l0 l1 l2 ⊢
    rw [jinc (by omega) (by omega)]
    have b1 : 0 ≤ 1 + 4 * n ∧ 1 + 4 * n < 250 := ⟨by omega, by omega⟩
    have b2 : 0 ≤ 2 + 4 * n ∧ 2 + 4 * n < 250 := ⟨by omega, by omega⟩
    have b3 : 0 ≤ 3 + 4 * n ∧ 3 + 4 * n < 250 := ⟨by omega, by omega⟩
    have b4 : 0 ≤ 4 + 4 * n ∧ 4 + 4 * n < 250 := ⟨by omega, by omega⟩
    have bT : (0 : Int) ≤ 4881 ∧ (4881 : Int) < 5148 := by decide
    have nm := q_nM q1_w
    have fin_w : ∀ (w' : Int) (h3 : XH), InI w' → QK P (r_T 0) (RJ P) h3 → KR (r_T 0) h2 h3 → (∃ w_1 n_1 i : Int, [182, a, w', n + 1, 1 + 4 * n] = [182, a, w_1, n_1, i] ∧ 0 ≤ n_1 ∧ n_1 ≤ 30 ∧ InI w_1 ∧ QK P (r_T 0) (RJ P) h3 ∧ KR (r_T 0) h h3) ∧ (30 - (n + 1)).toNat < (30 - n).toNat := fun w' h3 k1_w k2 k3 => ⟨⟨w', n + 1, _, rfl, by omega, by omega, k1_w, k2, q2_w.tr k3⟩, by omega⟩
    refine ⟨b1, fun hA => ?_, fun hA => ⟨b1, fun hB_w => ?_, fun hB_w => ⟨b1, fun hC => ?_, fun hC => ⟨bT, fun hr => ⟨bT, ?_⟩, fun _ => ⟨fun _ => fin_w _ _ ⟨by omega, by omega⟩ q1_w KR.rf, fun _ => fin_w _ _ hw q1_w KR.rf⟩⟩⟩⟩⟩
    · obtain ⟨u1, u2_w, u3, u4_w, u5, u6⟩ := l0 hA
      obtain ⟨h3, x1_w, x2_w, x3⟩ := use0 (av := [182, 4719, B, C, D]) c264 rp_264 rr_264 q1_w ⟨rfl, iv_trial, ⟨u1, u2_w, nm.2.2⟩, ⟨u3, u4_w, ⟨by omega, by omega⟩⟩, ⟨by omega, u6, ⟨by omega, by omega⟩⟩, trivial⟩
      exact ⟨b2, b3, b4, [], h3, x1_w, fin_w _ _ hw x2_w x3⟩
    · obtain ⟨u1, u2_w, u3, u4_w, u5, u6⟩ := l1 hB_w
      obtain ⟨h3, x1_w, x2_w, x3⟩ := use0 (av := [182, 4719, B, C, D]) c266 rp_266 rr_266 q1_w ⟨rfl, iv_trial, ⟨u1, u2_w, nm.2.2⟩, ⟨u3, u4_w, ⟨by omega, by omega⟩⟩, ⟨u5, by omega, ⟨by omega, by omega⟩⟩, trivial⟩
      exact ⟨b2, b3, b4, [], h3, x1_w, fin_w _ _ hw x2_w x3⟩
    · obtain ⟨u1, u2_w, u3, u4_w⟩ := l2 hC
      rw [jadd (x := 4869) (y := B) (by omega) (by omega), show (4869 + B).toNat = 429 * 11 + (150 + B.toNat) by omega]
      obtain ⟨x1_w, x2_w⟩ := st_QK q1_w hJ (j := 11) (i := 150 + B.toNat) (v := C) (by decide) (by omega) (st_fit_ok (lo_w := 150) (hi_w := 162) (t := (1, 0, 9999)) (by decide +kernel) (by omega) (by omega) ⟨u3, u4_w, ⟨by omega, by omega⟩⟩) ⟨by omega, by omega⟩
      exact ⟨b2, b3, ⟨by omega, by omega⟩, fin_w _ _ hw x1_w x2_w⟩
    · have k162 : IV P (1, 0, 4) (h2 194 4881) := s_cell (j := 11) (i := 162) q1_w (r := 3) (x := (162, 163, (1, 0, 4))) rfl (by decide) (by decide) (by decide)
      have r0 := k162.1
      rw [jadd (x := h2 194 4881) (y := 1) (by omega) (by omega)]
      obtain ⟨x1_w, x2_w⟩ := st_QK q1_w hJ (j := 11) (i := 162) (v := h2 194 4881 + 1) (by decide) (by decide) (st_fit_ok (lo_w := 162) (hi_w := 163) (t := (1, 0, 4)) (by decide +kernel) (by decide) (by decide) ⟨by omega, by omega, ⟨by omega, by omega⟩⟩) ⟨by omega, by omega⟩
      exact fin_w _ _ hw x1_w x2_w
  · refine ⟨fun _ => ⟨q1_w, q2_w, IV.top hw, trivial⟩, fun _ => ⟨fun _ => ⟨by decide, q1_w, q2_w, IV.top (ht_int q1_w.1 (by decide) _), trivial⟩, fun _ => ?_⟩⟩
    obtain ⟨v, h3, x1_w, x2_w, x3, x4_w⟩ := use1 (av := [182, 4719]) c259 rp_259 rr_259 q1_w ⟨rfl, iv_trial, trivial⟩
    exact ⟨[v], h3, x1_w, x2_w, q2_w.tr x3, x4_w, trivial⟩
end HAC
