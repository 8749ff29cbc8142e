/-! ===== the reference's methods by hand_w: starts, keeps_w, what was read ===== -/
section HA2
variable {P : Int × Int} {g : Nat × Nat} {xs : Nat → Int} {L K n : Nat} {ck : Nat → List Nat} {cW : Nat → Nat → Int} {h : XH} {J : XH → Prop}
/-- what is_w stored_w in a part of a block_w fits_w all_w regions there_w -/
def st_fit (lo_w hi_w : Nat) (t : IT) : Bool := (r_A 194).2.2.all fun r => Nat.ble r.2.1 lo_w || Nat.ble hi_w r.1 || i_sub t r.2.2
theorem st_fit_ok {lo_w hi_w i : Nat} {t : IT} {v : Int} (hc_w : st_fit lo_w hi_w t = true) (h1 : lo_w ≤ i) (h2 : i < hi_w) (hv : IV P t v) : ∀ r ∈ (r_A 194).2.2, r.1 ≤ i → i < r.2.1 → IV P r.2.2 v := by
  intro r hr k1_w k2
  have h3 := List.all_eq_true.mp hc_w r hr
  simp only [Bool.or_eq_true, Nat.ble_eq] at h3
  exact IV.sub (h3.resolve_left (by omega)) hv
theorem st_init : (List.range 404).all (fun i => (r_A 194).2.2.all fun r => Nat.ble r.2.1 i || Nat.blt i r.1 || i_sub (bif Nat.blt i 78 then (1, -1, -1) else (1, 0, 0)) r.2.2) = true := by decide +kernel
theorem st_init_ok {i : Nat} (hi_w : i < 404) {v : Int} (hv : v = if i < 78 then -1 else 0) : ∀ r ∈ (r_A 194).2.2, r.1 ≤ i → i < r.2.1 → IV P r.2.2 v := by
  intro r hr k1_w k2
  have h3 := List.all_eq_true.mp (List.all_eq_true.mp st_init i (List.mem_range.mpr hi_w)) r hr
  simp only [Bool.or_eq_true, Nat.ble_eq, Nat.blt_eq] at h3
  refine IV.sub (h3.resolve_left (by omega)) ?_
  subst hv
  by_cases h : i < 78
  · rw [if_pos h, show Nat.blt i 78 = true from Nat.blt_eq.mpr h]
    exact ⟨by decide, by decide, by decide, by decide⟩
  · rw [if_neg h, show Nat.blt i 78 = false from by cases hb_w : Nat.blt i 78 with | false => rfl | true => exact absurd (Nat.blt_eq.mp hb_w) h]
    exact ⟨by decide, by decide, by decide, by decide⟩
theorem gr_met {m k : Int} (hQ : QK P (r_T 0) J h) (m0_w : 0 ≤ m) (m1_w : m < 6) (k0_w : 0 ≤ k) (k1_w : k < 3) : IV P (1, 0, 3) (h 188 (73 + 3 * m + k).toNat) := by
  have hc_w : m = 0 ∨ m = 1 ∨ m = 2 ∨ m = 3 ∨ m = 4 ∨ m = 5 := by omega
  rcases hc_w with rfl | rfl | rfl | rfl | rfl | rfl
  · exact q_cell hQ (q := 188) (r := 19) (x := (73, 76, (1, 0, 3))) (by decide) rfl rfl (by dsimp only; omega) (by dsimp only; omega)
  · exact q_cell hQ (q := 188) (r := 20) (x := (76, 79, (1, 0, 3))) (by decide) rfl rfl (by dsimp only; omega) (by dsimp only; omega)
  · exact q_cell hQ (q := 188) (r := 21) (x := (79, 82, (1, 0, 3))) (by decide) rfl rfl (by dsimp only; omega) (by dsimp only; omega)
  · exact q_cell hQ (q := 188) (r := 22) (x := (82, 85, (1, 0, 3))) (by decide) rfl rfl (by dsimp only; omega) (by dsimp only; omega)
  · exact q_cell hQ (q := 188) (r := 23) (x := (85, 88, (1, 0, 3))) (by decide) rfl rfl (by dsimp only; omega) (by dsimp only; omega)
  · exact q_cell hQ (q := 188) (r := 24) (x := (88, 91, (1, 0, 3))) (by decide) rfl rfl (by dsimp only; omega) (by dsimp only; omega)
theorem gr_feed {s : Int} (hQ : QK P (r_T 0) J h) (s0 : 0 ≤ s) (s1_w : s < 12) : IV P (1, 0, 9999) (h 188 (5 + s).toNat) :=
  q_cell hQ (q := 188) (r := 5) (x := (5, 17, (1, 0, 9999))) (by decide) rfl rfl (by dsimp only; omega) (by dsimp only; omega)
theorem t_240 (hJ : JS (r_T 0) J) (hK_w : 4294967300 ≤ K) (c228 : TotR P (r_T 0) J g (evF xs L ck K cW g_M n) 228) (c225 : TotR P (r_T 0) J g (evF xs L ck K cW g_M n) 225) : TotR P (r_T 0) J g (evF xs L ck K cW g_M (n + 1)) 240 := by
  refine tot_hand gm_240 rp_240 rr_240 ru_240 fun av h hQ hv => ?_
  obtain ⟨x, b, rfl, hx, hb_w⟩ := il2 hv
  obtain rfl : x = 182 := hx
  obtain ⟨j, hj, rfl⟩ := iv_base hb_w
  show wS _ _ K bb_240 [182, 429 * (j : Int), 0, 0] h _
  generalize evF xs L ck K cW g_M n = F at c228 c225 ⊢
  unfold bb_240
  simp only [wf_4, wf_40, wf_5, wf_50, wf_6, wl_1, wt_1, wu_1, wa_1, wl_4, wt_4, wu_4, wa_4, wl_5, wt_5, wu_5, wa_5, wl_6, wt_6, wu_6, wa_6, wl_9, wt_9, wu_9, wa_9, wl_10, wt_10, wu_10, wa_10, wl_11, wt_11, wu_11, wa_11, wl_13, wt_13, wu_13, wa_13, wl_14, wt_14, wu_14, wa_14, wl_15, wt_15, wu_15, wa_15, wl_16, wt_16, wu_16, wa_16, wl_17, wt_17, wu_17, wa_17, wl_20, wt_20, wu_20, wa_20, wl_21, wt_21, wu_21, wa_21, wl_22, wt_22, wu_22, wa_22, wl_23, wt_23, wu_23, wa_23, wl_24, wt_24, wu_24, wa_24, wl_26, wt_26, wu_26, wa_26, wl_27, wt_27, wu_27, wa_27, wl_28, wt_28, wu_28, wa_28, we_1, we_3, we_10, we_14, we_15, we_16, we_17, we_18, we_20, we_21, we_22, we_24, we_25, we_26, we_27, we_28, we_30, we_31, we_32, wc_20, wc_21, wc_22, wc_24, wc_25, wc_26, wc_27, wc_3, wc_4, wc_7, wc_28, wc_32, ws_1, ws_2, ws_3, ws_4, ws_9, ws_10, ws_11, ws_14, ws_15, ws_16, ws_27, ws_17, ws_20, ws_28, kc_0, kc_1, kn_1, kc_2, kn_2, kc_3, kc_4, kc_5, kc_6, kc_7, kc_8, kc_9, kc_10, kc_12, kc_13, kc_14, kc_16, kc_17, kc_18, kc_19, kc_20, kc_21, kc_22, kc_24, kc_28, kc_30, kc_32, kc_37, kc_40, kc_41, kc_42, kc_43, kc_45, kc_48, kc_56, kc_57, kc_59, kc_60, kc_61, kc_64, kc_73, kc_78, kc_91, kc_95, kc_96, kc_97, kc_98, kc_99, kc_100, kc_112, kc_122, kc_125, kc_126, kc_150, kc_162, kc_163, kc_168, kc_186, kc_190, kc_200, kc_250, kc_255, kc_355, kc_356, kc_404, kc_405, kc_429, kc_573, kc_999, kc_1000, kc_1002, kc_1100, kc_1891, kc_2200, kc_4719, kc_4869, kc_4881, kc_5148, kc_9999, kn_9999, kc_10000, kc_12345, kc_19741, kc_25433, kc_65536, kc_320403, kc_628412, kc_629093, kc_660401, kc_679843, kc_918640, kc_979410, kc_1178088, kc_6232410, kc_24644941, kc_36238189, kc_38270444, kc_392531318, kc_425693491, kc_1103515245, kc_1342154595, kc_2147483648, kc_42328242873, kc_891704255789, kc_1722105685577, kc_1858726030364, ct_0, ct_1, ct_2, ct_3, ct_4, ct_5, cf_0, cf_1, cf_2, cf_3, cf_4, cf_5, w_ty6, w_ty7, m_sv, m_z0, m_hd, m_g0, m_gs, m_s0, m_ss, m_ap, m_an, forall_const, true_and, and_true, ne_eq, not_true_eq_false, not_false_eq_true, false_implies, true_implies, implies_true, eq_self, reduceCtorEq, Nat.reduceDiv, Nat.reduceMod, Int.reduceToNat, or_true, true_or, or_false, false_or, or_self, m_it, m_if, m_c1, m_01, m_02, m_03, m_04, m_10, m_12, m_13, m_14, m_20, m_21, m_23, m_24, m_30, m_31, m_32, m_34, m_40, m_41, m_42, m_43]
  refine w_lp (fun en h' => ∃ k : Int, en = [182, 429 * (j : Int), k, 0] ∧ 0 ≤ k ∧ k ≤ 404 ∧ QK P (r_T 0) J h' ∧ KR (r_T 0) h h') (fun en _ => (404 - en.getD 2 0).toNat) ⟨0, rfl, by omega, by omega, hQ, KR.rf⟩ ?_
  rintro en h1 ⟨k, rfl, k0_w, k1_w, q1_w, q2_w⟩
  refine ⟨?_, ?_⟩
  · show (404 - k).toNat < K
    omega
  simp only [wf_4, wf_40, wf_5, wf_50, wf_6, wl_1, wt_1, wu_1, wa_1, wl_4, wt_4, wu_4, wa_4, wl_5, wt_5, wu_5, wa_5, wl_6, wt_6, wu_6, wa_6, wl_9, wt_9, wu_9, wa_9, wl_10, wt_10, wu_10, wa_10, wl_11, wt_11, wu_11, wa_11, wl_13, wt_13, wu_13, wa_13, wl_14, wt_14, wu_14, wa_14, wl_15, wt_15, wu_15, wa_15, wl_16, wt_16, wu_16, wa_16, wl_17, wt_17, wu_17, wa_17, wl_20, wt_20, wu_20, wa_20, wl_21, wt_21, wu_21, wa_21, wl_22, wt_22, wu_22, wa_22, wl_23, wt_23, wu_23, wa_23, wl_24, wt_24, wu_24, wa_24, wl_26, wt_26, wu_26, wa_26, wl_27, wt_27, wu_27, wa_27, wl_28, wt_28, wu_28, wa_28, we_1, we_3, we_10, we_14, we_15, we_16, we_17, we_18, we_20, we_21, we_22, we_24, we_25, we_26, we_27, we_28, we_30, we_31, we_32, wc_20, wc_21, wc_22, wc_24, wc_25, wc_26, wc_27, wc_3, wc_4, wc_7, wc_28, wc_32, ws_1, ws_2, ws_3, ws_4, ws_9, ws_10, ws_11, ws_14, ws_15, ws_16, ws_27, ws_17, ws_20, ws_28, kc_0, kc_1, kn_1, kc_2, kn_2, kc_3, kc_4, kc_5, kc_6, kc_7, kc_8, kc_9, kc_10, kc_12, kc_13, kc_14, kc_16, kc_17, kc_18, kc_19, kc_20, kc_21, kc_22, kc_24, kc_28, kc_30, kc_32, kc_37, kc_40, kc_41, kc_42, kc_43, kc_45, kc_48, kc_56, kc_57, kc_59, kc_60, kc_61, kc_64, kc_73, kc_78, kc_91, kc_95, kc_96, kc_97, kc_98, kc_99, kc_100, kc_112, kc_122, kc_125, kc_126, kc_150, kc_162, kc_163, kc_168, kc_186, kc_190, kc_200, kc_250, kc_255, kc_355, kc_356, kc_404, kc_405, kc_429, kc_573, kc_999, kc_1000, kc_1002, kc_1100, kc_1891, kc_2200, kc_4719, kc_4869, kc_4881, kc_5148, kc_9999, kn_9999, kc_10000, kc_12345, kc_19741, kc_25433, kc_65536, kc_320403, kc_628412, kc_629093, kc_660401, kc_679843, kc_918640, kc_979410, kc_1178088, kc_6232410, kc_24644941, kc_36238189, kc_38270444, kc_392531318, kc_425693491, kc_1103515245, kc_1342154595, kc_2147483648, kc_42328242873, kc_891704255789, kc_1722105685577, kc_1858726030364, ct_0, ct_1, ct_2, ct_3, ct_4, ct_5, cf_0, cf_1, cf_2, cf_3, cf_4, cf_5, w_ty6, w_ty7, m_sv, m_z0, m_hd, m_g0, m_gs, m_s0, m_ss, m_ap, m_an, forall_const, true_and, and_true, ne_eq, not_true_eq_false, not_false_eq_true, false_implies, true_implies, implies_true, eq_self, reduceCtorEq, Nat.reduceDiv, Nat.reduceMod, Int.reduceToNat, or_true, true_or, or_false, false_or, or_self, m_it, m_if, m_c1, m_01, m_02, m_03, m_04, m_10, m_12, m_13, m_14, m_20, m_21, m_23, m_24, m_30, m_31, m_32, m_34, m_40, m_41, m_42, m_43]
  refine ⟨fun hk => ?_, fun hk => ?_⟩
  · simp (disch := omega) only [jadd, jinc]
    have e1_w : (429 * (j : Int) + k).toNat = 429 * j + k.toNat := by omega
    rw [e1_w]
    refine ⟨fun h78 => ?_, fun h78 => ?_⟩
    · obtain ⟨q3_w, q4_w⟩ := st_QK q1_w hJ (j := j) (i := k.toNat) (v := -1) hj (by omega) (st_init_ok (by omega) (by rw [if_pos (by omega)])) ⟨by decide, by decide⟩
      refine ⟨⟨by omega, by omega⟩, ⟨k + 1, rfl, by omega, by omega, q3_w, q2_w.tr q4_w⟩, ?_⟩
      show (404 - (k + 1)).toNat < (404 - k).toNat
      omega
    · obtain ⟨q3_w, q4_w⟩ := st_QK q1_w hJ (j := j) (i := k.toNat) (v := 0) hj (by omega) (st_init_ok (by omega) (by rw [if_neg (by omega)])) ⟨by decide, by decide⟩
      refine ⟨⟨by omega, by omega⟩, ⟨k + 1, rfl, by omega, by omega, q3_w, q2_w.tr q4_w⟩, ?_⟩
      show (404 - (k + 1)).toNat < (404 - k).toNat
      omega
  · refine w_lp (fun en h' => ∃ m z : Int, en = [182, 429 * (j : Int), m, z] ∧ 0 ≤ m ∧ m ≤ 6 ∧ QK P (r_T 0) J h' ∧ KR (r_T 0) h h') (fun en _ => (6 - en.getD 2 0).toNat) ⟨0, 0, rfl, by omega, by omega, q1_w, q2_w⟩ ?_
    rintro en h2 ⟨m, z, rfl, m0_w, m1_w, q3_w, q4_w⟩
    refine ⟨?_, ?_⟩
    · show (6 - m).toNat < K
      omega
    simp only [wf_4, wf_40, wf_5, wf_50, wf_6, wl_1, wt_1, wu_1, wa_1, wl_4, wt_4, wu_4, wa_4, wl_5, wt_5, wu_5, wa_5, wl_6, wt_6, wu_6, wa_6, wl_9, wt_9, wu_9, wa_9, wl_10, wt_10, wu_10, wa_10, wl_11, wt_11, wu_11, wa_11, wl_13, wt_13, wu_13, wa_13, wl_14, wt_14, wu_14, wa_14, wl_15, wt_15, wu_15, wa_15, wl_16, wt_16, wu_16, wa_16, wl_17, wt_17, wu_17, wa_17, wl_20, wt_20, wu_20, wa_20, wl_21, wt_21, wu_21, wa_21, wl_22, wt_22, wu_22, wa_22, wl_23, wt_23, wu_23, wa_23, wl_24, wt_24, wu_24, wa_24, wl_26, wt_26, wu_26, wa_26, wl_27, wt_27, wu_27, wa_27, wl_28, wt_28, wu_28, wa_28, we_1, we_3, we_10, we_14, we_15, we_16, we_17, we_18, we_20, we_21, we_22, we_24, we_25, we_26, we_27, we_28, we_30, we_31, we_32, wc_20, wc_21, wc_22, wc_24, wc_25, wc_26, wc_27, wc_3, wc_4, wc_7, wc_28, wc_32, ws_1, ws_2, ws_3, ws_4, ws_9, ws_10, ws_11, ws_14, ws_15, ws_16, ws_27, ws_17, ws_20, ws_28, kc_0, kc_1, kn_1, kc_2, kn_2, kc_3, kc_4, kc_5, kc_6, kc_7, kc_8, kc_9, kc_10, kc_12, kc_13, kc_14, kc_16, kc_17, kc_18, kc_19, kc_20, kc_21, kc_22, kc_24, kc_28, kc_30, kc_32, kc_37, kc_40, kc_41, kc_42, kc_43, kc_45, kc_48, kc_56, kc_57, kc_59, kc_60, kc_61, kc_64, kc_73, kc_78, kc_91, kc_95, kc_96, kc_97, kc_98, kc_99, kc_100, kc_112, kc_122, kc_125, kc_126, kc_150, kc_162, kc_163, kc_168, kc_186, kc_190, kc_200, kc_250, kc_255, kc_355, kc_356, kc_404, kc_405, kc_429, kc_573, kc_999, kc_1000, kc_1002, kc_1100, kc_1891, kc_2200, kc_4719, kc_4869, kc_4881, kc_5148, kc_9999, kn_9999, kc_10000, kc_12345, kc_19741, kc_25433, kc_65536, kc_320403, kc_628412, kc_629093, kc_660401, kc_679843, kc_918640, kc_979410, kc_1178088, kc_6232410, kc_24644941, kc_36238189, kc_38270444, kc_392531318, kc_425693491, kc_1103515245, kc_1342154595, kc_2147483648, kc_42328242873, kc_891704255789, kc_1722105685577, kc_1858726030364, ct_0, ct_1, ct_2, ct_3, ct_4, ct_5, cf_0, cf_1, cf_2, cf_3, cf_4, cf_5, w_ty6, w_ty7, m_sv, m_z0, m_hd, m_g0, m_gs, m_s0, m_ss, m_ap, m_an, forall_const, true_and, and_true, ne_eq, not_true_eq_false, not_false_eq_true, false_implies, true_implies, implies_true, eq_self, reduceCtorEq, Nat.reduceDiv, Nat.reduceMod, Int.reduceToNat, or_true, true_or, or_false, false_or, or_self, m_it, m_if, m_c1, m_01, m_02, m_03, m_04, m_10, m_12, m_13, m_14, m_20, m_21, m_23, m_24, m_30, m_31, m_32, m_34, m_40, m_41, m_42, m_43]
    obtain ⟨v, h3, e1_w, e2_w, e3_w, e4_w, e5_w, e6_w⟩ := use1 c228 rp_228 rr_228 q3_w il_this
    refine ⟨[v], h3, e1_w, fun hm_w => ?_, fun hm_w => ?_⟩
    · simp only [m_hd] at hm_w
      refine w_lp (fun en h' => ∃ s : Int, en = [182, 429 * (j : Int), m, s] ∧ 0 ≤ s ∧ s ≤ 12 ∧ QK P (r_T 0) J h' ∧ KR (r_T 0) h h') (fun en _ => (12 - en.getD 3 0).toNat) ⟨0, rfl, by omega, by omega, e2_w, q4_w.tr e3_w⟩ ?_
      rintro en h4 ⟨s, rfl, s0, s1_w, q5_w, q6_w⟩
      refine ⟨?_, ?_⟩
      · show (12 - s).toNat < K
        omega
      simp only [wf_4, wf_40, wf_5, wf_50, wf_6, wl_1, wt_1, wu_1, wa_1, wl_4, wt_4, wu_4, wa_4, wl_5, wt_5, wu_5, wa_5, wl_6, wt_6, wu_6, wa_6, wl_9, wt_9, wu_9, wa_9, wl_10, wt_10, wu_10, wa_10, wl_11, wt_11, wu_11, wa_11, wl_13, wt_13, wu_13, wa_13, wl_14, wt_14, wu_14, wa_14, wl_15, wt_15, wu_15, wa_15, wl_16, wt_16, wu_16, wa_16, wl_17, wt_17, wu_17, wa_17, wl_20, wt_20, wu_20, wa_20, wl_21, wt_21, wu_21, wa_21, wl_22, wt_22, wu_22, wa_22, wl_23, wt_23, wu_23, wa_23, wl_24, wt_24, wu_24, wa_24, wl_26, wt_26, wu_26, wa_26, wl_27, wt_27, wu_27, wa_27, wl_28, wt_28, wu_28, wa_28, we_1, we_3, we_10, we_14, we_15, we_16, we_17, we_18, we_20, we_21, we_22, we_24, we_25, we_26, we_27, we_28, we_30, we_31, we_32, wc_20, wc_21, wc_22, wc_24, wc_25, wc_26, wc_27, wc_3, wc_4, wc_7, wc_28, wc_32, ws_1, ws_2, ws_3, ws_4, ws_9, ws_10, ws_11, ws_14, ws_15, ws_16, ws_27, ws_17, ws_20, ws_28, kc_0, kc_1, kn_1, kc_2, kn_2, kc_3, kc_4, kc_5, kc_6, kc_7, kc_8, kc_9, kc_10, kc_12, kc_13, kc_14, kc_16, kc_17, kc_18, kc_19, kc_20, kc_21, kc_22, kc_24, kc_28, kc_30, kc_32, kc_37, kc_40, kc_41, kc_42, kc_43, kc_45, kc_48, kc_56, kc_57, kc_59, kc_60, kc_61, kc_64, kc_73, kc_78, kc_91, kc_95, kc_96, kc_97, kc_98, kc_99, kc_100, kc_112, kc_122, kc_125, kc_126, kc_150, kc_162, kc_163, kc_168, kc_186, kc_190, kc_200, kc_250, kc_255, kc_355, kc_356, kc_404, kc_405, kc_429, kc_573, kc_999, kc_1000, kc_1002, kc_1100, kc_1891, kc_2200, kc_4719, kc_4869, kc_4881, kc_5148, kc_9999, kn_9999, kc_10000, kc_12345, kc_19741, kc_25433, kc_65536, kc_320403, kc_628412, kc_629093, kc_660401, kc_679843, kc_918640, kc_979410, kc_1178088, kc_6232410, kc_24644941, kc_36238189, kc_38270444, kc_392531318, kc_425693491, kc_1103515245, kc_1342154595, kc_2147483648, kc_42328242873, kc_891704255789, kc_1722105685577, kc_1858726030364, ct_0, ct_1, ct_2, ct_3, ct_4, ct_5, cf_0, cf_1, cf_2, cf_3, cf_4, cf_5, w_ty6, w_ty7, m_sv, m_z0, m_hd, m_g0, m_gs, m_s0, m_ss, m_ap, m_an, forall_const, true_and, and_true, ne_eq, not_true_eq_false, not_false_eq_true, false_implies, true_implies, implies_true, eq_self, reduceCtorEq, Nat.reduceDiv, Nat.reduceMod, Int.reduceToNat, or_true, true_or, or_false, false_or, or_self, m_it, m_if, m_c1, m_01, m_02, m_03, m_04, m_10, m_12, m_13, m_14, m_20, m_21, m_23, m_24, m_30, m_31, m_32, m_34, m_40, m_41, m_42, m_43]
      refine ⟨fun hs => ?_, fun hs => ?_⟩
      · simp (disch := omega) only [jadd, jmul, jinc]
        have e7_w : (429 * (j : Int) + 78 + 12 * m + s).toNat = 429 * j + (78 + 12 * m + s).toNat := by omega
        rw [e7_w]
        obtain ⟨q7_w, q8_w⟩ := st_QK q5_w hJ (j := j) (i := (78 + 12 * m + s).toNat) (v := h4 188 (73 + 3 * m + 2).toNat) hj (by omega) (st_fit_ok (lo_w := 78) (hi_w := 150) (t := (1, 0, 3)) (by decide +kernel) (by omega) (by omega) (gr_met q5_w m0_w (by omega) (by decide) (by decide))) (ht_int q5_w.1 (by decide) _)
        refine ⟨⟨by omega, by omega⟩, ⟨by omega, by omega⟩, ⟨s + 1, rfl, by omega, by omega, q7_w, q6_w.tr q8_w⟩, ?_⟩
        show (12 - (s + 1)).toNat < (12 - s).toNat
        omega
      · simp (disch := omega) only [jinc]
        refine ⟨⟨m + 1, s, rfl, by omega, by omega, q5_w, q6_w⟩, ?_⟩
        show (6 - (m + 1)).toNat < (6 - m).toNat
        omega
    · refine w_lp (fun en h' => ∃ s : Int, en = [182, 429 * (j : Int), s, z] ∧ 0 ≤ s ∧ s ≤ 12 ∧ QK P (r_T 0) J h' ∧ KR (r_T 0) h h') (fun en _ => (12 - en.getD 2 0).toNat) ⟨0, rfl, by omega, by omega, e2_w, q4_w.tr e3_w⟩ ?_
      rintro en h4 ⟨s, rfl, s0, s1_w, q5_w, q6_w⟩
      refine ⟨?_, ?_⟩
      · show (12 - s).toNat < K
        omega
      simp only [wf_4, wf_40, wf_5, wf_50, wf_6, wl_1, wt_1, wu_1, wa_1, wl_4, wt_4, wu_4, wa_4, wl_5, wt_5, wu_5, wa_5, wl_6, wt_6, wu_6, wa_6, wl_9, wt_9, wu_9, wa_9, wl_10, wt_10, wu_10, wa_10, wl_11, wt_11, wu_11, wa_11, wl_13, wt_13, wu_13, wa_13, wl_14, wt_14, wu_14, wa_14, wl_15, wt_15, wu_15, wa_15, wl_16, wt_16, wu_16, wa_16, wl_17, wt_17, wu_17, wa_17, wl_20, wt_20, wu_20, wa_20, wl_21, wt_21, wu_21, wa_21, wl_22, wt_22, wu_22, wa_22, wl_23, wt_23, wu_23, wa_23, wl_24, wt_24, wu_24, wa_24, wl_26, wt_26, wu_26, wa_26, wl_27, wt_27, wu_27, wa_27, wl_28, wt_28, wu_28, wa_28, we_1, we_3, we_10, we_14, we_15, we_16, we_17, we_18, we_20, we_21, we_22, we_24, we_25, we_26, we_27, we_28, we_30, we_31, we_32, wc_20, wc_21, wc_22, wc_24, wc_25, wc_26, wc_27, wc_3, wc_4, wc_7, wc_28, wc_32, ws_1, ws_2, ws_3, ws_4, ws_9, ws_10, ws_11, ws_14, ws_15, ws_16, ws_27, ws_17, ws_20, ws_28, kc_0, kc_1, kn_1, kc_2, kn_2, kc_3, kc_4, kc_5, kc_6, kc_7, kc_8, kc_9, kc_10, kc_12, kc_13, kc_14, kc_16, kc_17, kc_18, kc_19, kc_20, kc_21, kc_22, kc_24, kc_28, kc_30, kc_32, kc_37, kc_40, kc_41, kc_42, kc_43, kc_45, kc_48, kc_56, kc_57, kc_59, kc_60, kc_61, kc_64, kc_73, kc_78, kc_91, kc_95, kc_96, kc_97, kc_98, kc_99, kc_100, kc_112, kc_122, kc_125, kc_126, kc_150, kc_162, kc_163, kc_168, kc_186, kc_190, kc_200, kc_250, kc_255, kc_355, kc_356, kc_404, kc_405, kc_429, kc_573, kc_999, kc_1000, kc_1002, kc_1100, kc_1891, kc_2200, kc_4719, kc_4869, kc_4881, kc_5148, kc_9999, kn_9999, kc_10000, kc_12345, kc_19741, kc_25433, kc_65536, kc_320403, kc_628412, kc_629093, kc_660401, kc_679843, kc_918640, kc_979410, kc_1178088, kc_6232410, kc_24644941, kc_36238189, kc_38270444, kc_392531318, kc_425693491, kc_1103515245, kc_1342154595, kc_2147483648, kc_42328242873, kc_891704255789, kc_1722105685577, kc_1858726030364, ct_0, ct_1, ct_2, ct_3, ct_4, ct_5, cf_0, cf_1, cf_2, cf_3, cf_4, cf_5, w_ty6, w_ty7, m_sv, m_z0, m_hd, m_g0, m_gs, m_s0, m_ss, m_ap, m_an, forall_const, true_and, and_true, ne_eq, not_true_eq_false, not_false_eq_true, false_implies, true_implies, implies_true, eq_self, reduceCtorEq, Nat.reduceDiv, Nat.reduceMod, Int.reduceToNat, or_true, true_or, or_false, false_or, or_self, m_it, m_if, m_c1, m_01, m_02, m_03, m_04, m_10, m_12, m_13, m_14, m_20, m_21, m_23, m_24, m_30, m_31, m_32, m_34, m_40, m_41, m_42, m_43]
      obtain ⟨w, h5, f1_w, f2_w, f3_w, f4_w, f5_w, f6_w⟩ := use1 c225 rp_225 rr_225 q5_w il_this
      refine ⟨[w], h5, f1_w, fun hs => ?_, fun hs => ⟨f2_w, q6_w.tr f3_w, trivial⟩⟩
      simp only [m_hd] at hs
      simp (disch := omega) only [jadd, jinc]
      have e7_w : (429 * (j : Int) + 150 + s).toNat = 429 * j + (150 + s).toNat := by omega
      rw [e7_w]
      obtain ⟨q7_w, q8_w⟩ := st_QK f2_w hJ (j := j) (i := (150 + s).toNat) (v := h5 188 (5 + s).toNat) hj (by omega) (st_fit_ok (lo_w := 150) (hi_w := 162) (t := (1, 0, 9999)) (by decide +kernel) (by omega) (by omega) (gr_feed f2_w s0 (by omega))) (ht_int f2_w.1 (by decide) _)
      refine ⟨⟨by omega, by omega⟩, ⟨by omega, by omega⟩, ⟨s + 1, rfl, by omega, by omega, q7_w, (q6_w.tr f3_w).tr q8_w⟩, ?_⟩
      show (12 - (s + 1)).toNat < (12 - s).toNat
      omega
/-- a field_w of the reference_w is_w written_w -/
theorem fd_QK (hQ : QK P (r_T 0) J h) (hJ : JS (r_T 0) J) {k : Nat} {v : Int} (hk : (r_F k).1 = 1 ∨ (r_F k).1 = 2) (hv : IV P (r_F k) v) : QK P (r_T 0) J (j_up h 182 k v) ∧ KR (r_T 0) h (j_up h 182 k v) :=
  ⟨⟨fld_HT (T := r_T 0) (r_tab 0) hQ.1 hk hv, RI.fld hJ rfl hQ.2 hv⟩, KR.up rfl⟩
theorem q_undos (hQ : QK P (r_T 0) J h) : 0 ≤ h 182 18 ∧ h 182 18 ≤ 8 := by
  have k : IV P (1, 0, 8) (h 182 18) := hQ.2.1 18
  exact ⟨k.1, k.2.1⟩
theorem m_242 (hJ : JS (r_T 0) J) (hK_w : 4294967300 ≤ K) (hQ : QK P (r_T 0) J h) : ∃ r h', evF xs L ck K cW g_M (n + 2) 242 [182] ((a_g3, g), h) = some (1, r, ((a_g3, g), h')) ∧ QK P (r_T 0) J h' ∧ KR (r_T 0) h h' ∧ (∀ p, p < 858 → h' 194 p = h 194 p) ∧ r = [] := by
  refine tr_of gm_242 (B := fun r h' => QK P (r_T 0) J h' ∧ KR (r_T 0) h h' ∧ (∀ p, p < 858 → h' 194 p = h 194 p) ∧ r = []) ?_
  show wS _ _ K bb_242 [182, 0] h _
  have c224 := fun (h : XH) (hQ : QK P (r_T 0) J h) i j (hi_w : i < 12) (hj : j < 12) => m_224 (xs := xs) (L := L) (ck := ck) (cW := cW) (n := n) (g := g) (m := 404) hJ hK_w hQ hi_w hj (by decide) (by decide)
  generalize evF xs L ck K cW g_M (n + 1) = F at c224 ⊢
  have fin_w : ∀ h1, QK P (r_T 0) J h1 → KR (r_T 0) h h1 → (∀ p, p < 858 → h1 194 p = h 194 p) → h1 182 18 < 8 → ∃ r h2, F 224 [182, 0, j_iop 2 429 (j_iop 0 3 (h1 182 18)), 404] ((a_g3, g), h1) = some (1, r, ((a_g3, g), h2)) ∧ QK P (r_T 0) J (j_up h2 182 18 (j_iop 0 (h2 182 18) 1)) ∧ KR (r_T 0) h (j_up h2 182 18 (j_iop 0 (h2 182 18) 1)) ∧ (∀ p, p < 858 → j_up h2 182 18 (j_iop 0 (h2 182 18) 1) 194 p = h 194 p) := by
    intro h1 q1_w q2_w q9_w q3_w
    have u := q_undos q1_w
    obtain ⟨r, h2, e1_w, e2_w, e3_w, e4_w, e5_w, -⟩ := c224 h1 q1_w 0 (3 + (h1 182 18).toNat) (by decide) (by omega)
    refine ⟨r, h2, ?_, ?_⟩
    · simp (disch := omega) only [jadd, jmul]
      have k1_w : 429 * (3 + h1 182 18) = 429 * ((3 + (h1 182 18).toNat : Nat) : Int) := by omega
      rw [k1_w]
      exact e1_w
    · have k2 := e4_w 182 18 (by decide)
      rw [k2]
      simp (disch := omega) only [jadd]
      obtain ⟨z1, z2⟩ := fd_QK e2_w hJ (k := 18) (v := h1 182 18 + 1) (Or.inl rfl) ⟨by omega, by omega, by omega, by omega⟩
      exact ⟨z1, (q2_w.tr e3_w).tr z2, fun p hp => (up_ne (fun z => absurd z.1 (by decide))).trans ((e5_w p (Or.inl (by omega))).trans (q9_w p hp))⟩
  unfold bb_242
  simp only [wf_4, wf_40, wf_5, wf_50, wf_6, wl_1, wt_1, wu_1, wa_1, wl_4, wt_4, wu_4, wa_4, wl_5, wt_5, wu_5, wa_5, wl_6, wt_6, wu_6, wa_6, wl_9, wt_9, wu_9, wa_9, wl_10, wt_10, wu_10, wa_10, wl_11, wt_11, wu_11, wa_11, wl_13, wt_13, wu_13, wa_13, wl_14, wt_14, wu_14, wa_14, wl_15, wt_15, wu_15, wa_15, wl_16, wt_16, wu_16, wa_16, wl_17, wt_17, wu_17, wa_17, wl_20, wt_20, wu_20, wa_20, wl_21, wt_21, wu_21, wa_21, wl_22, wt_22, wu_22, wa_22, wl_23, wt_23, wu_23, wa_23, wl_24, wt_24, wu_24, wa_24, wl_26, wt_26, wu_26, wa_26, wl_27, wt_27, wu_27, wa_27, wl_28, wt_28, wu_28, wa_28, we_1, we_3, we_10, we_14, we_15, we_16, we_17, we_18, we_20, we_21, we_22, we_24, we_25, we_26, we_27, we_28, we_30, we_31, we_32, wc_20, wc_21, wc_22, wc_24, wc_25, wc_26, wc_27, wc_3, wc_4, wc_7, wc_28, wc_32, ws_1, ws_2, ws_3, ws_4, ws_9, ws_10, ws_11, ws_14, ws_15, ws_16, ws_27, ws_17, ws_20, ws_28, kc_0, kc_1, kn_1, kc_2, kn_2, kc_3, kc_4, kc_5, kc_6, kc_7, kc_8, kc_9, kc_10, kc_12, kc_13, kc_14, kc_16, kc_17, kc_18, kc_19, kc_20, kc_21, kc_22, kc_24, kc_28, kc_30, kc_32, kc_37, kc_40, kc_41, kc_42, kc_43, kc_45, kc_48, kc_56, kc_57, kc_59, kc_60, kc_61, kc_64, kc_73, kc_78, kc_91, kc_95, kc_96, kc_97, kc_98, kc_99, kc_100, kc_112, kc_122, kc_125, kc_126, kc_150, kc_162, kc_163, kc_168, kc_186, kc_190, kc_200, kc_250, kc_255, kc_355, kc_356, kc_404, kc_405, kc_429, kc_573, kc_999, kc_1000, kc_1002, kc_1100, kc_1891, kc_2200, kc_4719, kc_4869, kc_4881, kc_5148, kc_9999, kn_9999, kc_10000, kc_12345, kc_19741, kc_25433, kc_65536, kc_320403, kc_628412, kc_629093, kc_660401, kc_679843, kc_918640, kc_979410, kc_1178088, kc_6232410, kc_24644941, kc_36238189, kc_38270444, kc_392531318, kc_425693491, kc_1103515245, kc_1342154595, kc_2147483648, kc_42328242873, kc_891704255789, kc_1722105685577, kc_1858726030364, ct_0, ct_1, ct_2, ct_3, ct_4, ct_5, cf_0, cf_1, cf_2, cf_3, cf_4, cf_5, w_ty6, w_ty7, m_sv, m_z0, m_hd, m_g0, m_gs, m_s0, m_ss, m_ap, m_an, forall_const, true_and, and_true, ne_eq, not_true_eq_false, not_false_eq_true, false_implies, true_implies, implies_true, eq_self, reduceCtorEq, Nat.reduceDiv, Nat.reduceMod, Int.reduceToNat, or_true, true_or, or_false, false_or, or_self, m_it, m_if, m_c1, m_01, m_02, m_03, m_04, m_10, m_12, m_13, m_14, m_20, m_21, m_23, m_24, m_30, m_31, m_32, m_34, m_40, m_41, m_42, m_43]
  have u := q_undos hQ
  refine ⟨fun h8 => ?_, fun h8 => ?_⟩
  · refine w_lp (fun en h' => ∃ k : Int, en = [182, k] ∧ 1 ≤ k ∧ k ≤ 8 ∧ QK P (r_T 0) J h' ∧ KR (r_T 0) h h' ∧ h' 182 18 = 8 ∧ (∀ p, p < 858 → h' 194 p = h 194 p)) (fun en _ => (8 - en.getD 1 0).toNat) ⟨1, rfl, by omega, by omega, hQ, KR.rf, h8, fun _ _ => rfl⟩ ?_
    rintro en h1 ⟨k, rfl, k0_w, k1_w, q1_w, q2_w, q3_w, q4_w⟩
    refine ⟨?_, ?_⟩
    · show (8 - k).toNat < K
      omega
    simp only [wf_4, wf_40, wf_5, wf_50, wf_6, wl_1, wt_1, wu_1, wa_1, wl_4, wt_4, wu_4, wa_4, wl_5, wt_5, wu_5, wa_5, wl_6, wt_6, wu_6, wa_6, wl_9, wt_9, wu_9, wa_9, wl_10, wt_10, wu_10, wa_10, wl_11, wt_11, wu_11, wa_11, wl_13, wt_13, wu_13, wa_13, wl_14, wt_14, wu_14, wa_14, wl_15, wt_15, wu_15, wa_15, wl_16, wt_16, wu_16, wa_16, wl_17, wt_17, wu_17, wa_17, wl_20, wt_20, wu_20, wa_20, wl_21, wt_21, wu_21, wa_21, wl_22, wt_22, wu_22, wa_22, wl_23, wt_23, wu_23, wa_23, wl_24, wt_24, wu_24, wa_24, wl_26, wt_26, wu_26, wa_26, wl_27, wt_27, wu_27, wa_27, wl_28, wt_28, wu_28, wa_28, we_1, we_3, we_10, we_14, we_15, we_16, we_17, we_18, we_20, we_21, we_22, we_24, we_25, we_26, we_27, we_28, we_30, we_31, we_32, wc_20, wc_21, wc_22, wc_24, wc_25, wc_26, wc_27, wc_3, wc_4, wc_7, wc_28, wc_32, ws_1, ws_2, ws_3, ws_4, ws_9, ws_10, ws_11, ws_14, ws_15, ws_16, ws_27, ws_17, ws_20, ws_28, kc_0, kc_1, kn_1, kc_2, kn_2, kc_3, kc_4, kc_5, kc_6, kc_7, kc_8, kc_9, kc_10, kc_12, kc_13, kc_14, kc_16, kc_17, kc_18, kc_19, kc_20, kc_21, kc_22, kc_24, kc_28, kc_30, kc_32, kc_37, kc_40, kc_41, kc_42, kc_43, kc_45, kc_48, kc_56, kc_57, kc_59, kc_60, kc_61, kc_64, kc_73, kc_78, kc_91, kc_95, kc_96, kc_97, kc_98, kc_99, kc_100, kc_112, kc_122, kc_125, kc_126, kc_150, kc_162, kc_163, kc_168, kc_186, kc_190, kc_200, kc_250, kc_255, kc_355, kc_356, kc_404, kc_405, kc_429, kc_573, kc_999, kc_1000, kc_1002, kc_1100, kc_1891, kc_2200, kc_4719, kc_4869, kc_4881, kc_5148, kc_9999, kn_9999, kc_10000, kc_12345, kc_19741, kc_25433, kc_65536, kc_320403, kc_628412, kc_629093, kc_660401, kc_679843, kc_918640, kc_979410, kc_1178088, kc_6232410, kc_24644941, kc_36238189, kc_38270444, kc_392531318, kc_425693491, kc_1103515245, kc_1342154595, kc_2147483648, kc_42328242873, kc_891704255789, kc_1722105685577, kc_1858726030364, ct_0, ct_1, ct_2, ct_3, ct_4, ct_5, cf_0, cf_1, cf_2, cf_3, cf_4, cf_5, w_ty6, w_ty7, m_sv, m_z0, m_hd, m_g0, m_gs, m_s0, m_ss, m_ap, m_an, forall_const, true_and, and_true, ne_eq, not_true_eq_false, not_false_eq_true, false_implies, true_implies, implies_true, eq_self, reduceCtorEq, Nat.reduceDiv, Nat.reduceMod, Int.reduceToNat, or_true, true_or, or_false, false_or, or_self, m_it, m_if, m_c1, m_01, m_02, m_03, m_04, m_10, m_12, m_13, m_14, m_20, m_21, m_23, m_24, m_30, m_31, m_32, m_34, m_40, m_41, m_42, m_43]
    refine ⟨fun hk => ?_, fun hk => ?_⟩
    · obtain ⟨r, h2, e1_w, e2_w, e3_w, e4_w, e5_w, -⟩ := c224 h1 q1_w (3 + k.toNat) (2 + k.toNat) (by omega) (by omega)
      simp (disch := omega) only [jadd, jsub, jmul, jinc]
      refine ⟨r, h2, ?_, ⟨k + 1, rfl, by omega, by omega, e2_w, q2_w.tr e3_w, (e4_w 182 18 (by decide)).trans q3_w, fun p hp => (e5_w p (Or.inl (by omega))).trans (q4_w p hp)⟩, ?_⟩
      · rw [show 429 * (3 + k) = 429 * ((3 + k.toNat : Nat) : Int) by omega, show 429 * (3 + k - 1) = 429 * ((2 + k.toNat : Nat) : Int) by omega]
        exact e1_w
      · show (8 - (k + 1)).toNat < (8 - k).toNat
        omega
    · rw [q3_w]
      have e8 : j_iop 1 8 1 = 7 := by decide
      rw [e8]
      obtain ⟨z1, z2⟩ := fd_QK q1_w hJ (k := 18) (v := 7) (Or.inl rfl) ⟨by decide, by decide, by decide, by decide⟩
      obtain ⟨r, h2, f1_w, f2_w, f3_w⟩ := fin_w _ z1 (q2_w.tr z2) (fun p hp => (up_ne (fun z => absurd z.1 (by decide))).trans (q4_w p hp)) (by rw [up_eq]; decide)
      exact ⟨r, h2, f1_w, f2_w, f3_w.1, f3_w.2⟩
  · obtain ⟨r, h2, f1_w, f2_w, f3_w⟩ := fin_w h hQ KR.rf (fun _ _ => rfl) (by omega)
    exact ⟨r, h2, f1_w, f2_w, f3_w.1, f3_w.2⟩
theorem t_242 (hJ : JS (r_T 0) J) (hK_w : 4294967300 ≤ K) : TotR P (r_T 0) J g (evF xs L ck K cW g_M (n + 2)) 242 := by
  intro av h hQ hv
  rw [rp_242] at hv
  obtain ⟨x, rfl, hx⟩ := il1 hv
  obtain rfl : x = 182 := hx
  obtain ⟨r, h', e1_w, e2_w, e3_w, -, rfl⟩ := m_242 (xs := xs) (L := L) (ck := ck) (cW := cW) (n := n) (g := g) hJ hK_w hQ
  exact ⟨[], h', e1_w, e2_w, e3_w, by rw [rr_242]; trivial, fun k => absurd rfl k⟩
end HA2
