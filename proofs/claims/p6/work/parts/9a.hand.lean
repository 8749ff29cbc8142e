/-! ===== the reference's methods by hand_w: run, undo, see, draw_w, mark_w ===== -/
def S242 (P : Int × Int) (J : XH → Prop) (g : Nat × Nat) (F : XP) : Prop := ∀ (h : XH), QK P (r_T 0) J h → ∃ h', F 242 [182] ((a_g3, g), h) = some (1, [], ((a_g3, g), h')) ∧ QK P (r_T 0) J h' ∧ KR (r_T 0) h h' ∧ (∀ p, p < 858 → h' 194 p = h 194 p)
def S224 (P : Int × Int) (J : XH → Prop) (g : Nat × Nat) (F : XP) : Prop := ∀ (h : XH) (i j : Nat) (m : Int), QK P (r_T 0) J h → i < 12 → j < 12 → 0 ≤ m → m ≤ 429 → ∃ h', F 224 [182, 429 * (i : Int), 429 * (j : Int), m] ((a_g3, g), h) = some (1, [], ((a_g3, g), h')) ∧ QK P (r_T 0) J h' ∧ KR (r_T 0) h h' ∧ But 194 h h'
def S309 (P : Int × Int) (J : XH → Prop) (g : Nat × Nat) (F : XP) : Prop := ∀ (h : XH) (m : Int), QK P (r_T 0) J h → 1 ≤ m → m ≤ 200 → ∃ v h', F 309 [182, m] ((a_g3, g), h) = some (1, [v], ((a_g3, g), h')) ∧ QK P (r_T 0) J h' ∧ KR (r_T 0) h h' ∧ 0 ≤ v ∧ v < m
section HAA
variable {P : Int × Int} {g : Nat × Nat} {xs : Nat → Int} {L K n : Nat} {ck : Nat → List Nat} {cW : Nat → Nat → Int} {h : XH} {J : XH → Prop}
theorem s_242 (hJ : JS (r_T 0) J) (hK_w : 4294967300 ≤ K) : S242 P J g (evF xs L ck K cW g_M (n + 2)) := fun h hQ => by
  obtain ⟨r, h', e1_w, e2_w, e3_w, e4_w, rfl⟩ := m_242 (xs := xs) (L := L) (ck := ck) (cW := cW) (n := n) (g := g) hJ hK_w hQ
  exact ⟨h', e1_w, e2_w, e3_w, e4_w⟩
theorem s_224 (hJ : JS (r_T 0) J) (hK_w : 4294967300 ≤ K) : S224 P J g (evF xs L ck K cW g_M (n + 1)) := fun h i j m hQ hi_w hj m0_w m1_w => by
  obtain ⟨r, h', e1_w, e2_w, e3_w, e4_w, -, rfl⟩ := m_224 (xs := xs) (L := L) (ck := ck) (cW := cW) (n := n) (g := g) hJ hK_w hQ hi_w hj m0_w m1_w
  exact ⟨h', e1_w, e2_w, e3_w, e4_w⟩
theorem th0 (hQ : QK P (r_T 0) J h) (hJ : JS (r_T 0) J) : QK P (r_T 0) J (j_up h 182 0 0) ∧ KR (r_T 0) h (j_up h 182 0 0) := fd_QK hQ hJ (k := 0) (v := 0) (Or.inl rfl) ⟨by decide, by decide, in_0⟩
theorem in_1 : InI 1 := ⟨by decide, by decide⟩
theorem in_m1 : InI (-1) := ⟨by decide, by decide⟩
theorem t_271 (hJ : JS (r_T 0) J) (c242 : S242 P J g (evF xs L ck K cW g_M n)) (c270 : S270 P J g (evF xs L ck K cW g_M n)) : TotR P (r_T 0) J g (evF xs L ck K cW g_M (n + 1)) 271 := by
  refine tot_hand gm_271 rp_271 rr_271 ru_271 fun av h hQ hv => ?_
  obtain ⟨x, rfl, hx⟩ := il1 hv
  obtain rfl : x = 182 := hx
  show wS _ _ K bb_271 [182] h _
  generalize evF xs L ck K cW g_M n = F at c242 c270 ⊢
  unfold bb_271
  simp only [wf_4, wf_40, wf_5, wf_50, wf_6, wl_1, wt_1, wu_1, wa_1, wl_4, wt_4, wu_4, wa_4, wl_5, wt_5, wu_5, wa_5, wl_6, wt_6, wu_6, wa_6, wl_9, wt_9, wu_9, wa_9, wl_10, wt_10, wu_10, wa_10, wl_11, wt_11, wu_11, wa_11, wl_13, wt_13, wu_13, wa_13, wl_14, wt_14, wu_14, wa_14, wl_15, wt_15, wu_15, wa_15, wl_16, wt_16, wu_16, wa_16, wl_17, wt_17, wu_17, wa_17, wl_20, wt_20, wu_20, wa_20, wl_21, wt_21, wu_21, wa_21, wl_22, wt_22, wu_22, wa_22, wl_23, wt_23, wu_23, wa_23, wl_24, wt_24, wu_24, wa_24, wl_26, wt_26, wu_26, wa_26, wl_27, wt_27, wu_27, wa_27, wl_28, wt_28, wu_28, wa_28, we_1, we_3, we_10, we_14, we_15, we_16, we_17, we_18, we_20, we_21, we_22, we_24, we_25, we_26, we_27, we_28, we_30, we_31, we_32, wc_20, wc_21, wc_22, wc_24, wc_25, wc_26, wc_27, wc_3, wc_4, wc_7, wc_28, wc_32, ws_1, ws_2, ws_3, ws_4, ws_9, ws_10, ws_11, ws_14, ws_15, ws_16, ws_27, ws_17, ws_20, ws_28, kc_0, kc_1, kn_1, kc_2, kn_2, kc_3, kc_4, kc_5, kc_6, kc_7, kc_8, kc_9, kc_10, kc_12, kc_13, kc_14, kc_16, kc_17, kc_18, kc_19, kc_20, kc_21, kc_22, kc_24, kc_28, kc_30, kc_32, kc_37, kc_40, kc_41, kc_42, kc_43, kc_45, kc_48, kc_56, kc_57, kc_59, kc_60, kc_61, kc_64, kc_73, kc_78, kc_91, kc_95, kc_96, kc_97, kc_98, kc_99, kc_100, kc_112, kc_122, kc_125, kc_126, kc_150, kc_162, kc_163, kc_168, kc_186, kc_190, kc_200, kc_250, kc_255, kc_355, kc_356, kc_404, kc_405, kc_429, kc_573, kc_999, kc_1000, kc_1002, kc_1100, kc_1891, kc_2200, kc_4719, kc_4869, kc_4881, kc_5148, kc_9999, kn_9999, kc_10000, kc_12345, kc_19741, kc_25433, kc_65536, kc_320403, kc_628412, kc_629093, kc_660401, kc_679843, kc_918640, kc_979410, kc_1178088, kc_6232410, kc_24644941, kc_36238189, kc_38270444, kc_392531318, kc_425693491, kc_1103515245, kc_1342154595, kc_2147483648, kc_42328242873, kc_891704255789, kc_1722105685577, kc_1858726030364, ct_0, ct_1, ct_2, ct_3, ct_4, ct_5, cf_0, cf_1, cf_2, cf_3, cf_4, cf_5, w_ty6, w_ty7, m_sv, m_z0, m_hd, m_g0, m_gs, m_s0, m_ss, m_ap, m_an, forall_const, true_and, and_true, ne_eq, not_true_eq_false, not_false_eq_true, false_implies, true_implies, implies_true, eq_self, reduceCtorEq, Nat.reduceDiv, Nat.reduceMod, Int.reduceToNat, or_true, true_or, or_false, false_or, or_self, m_it, m_if, m_c1, m_01, m_02, m_03, m_04, m_10, m_12, m_13, m_14, m_20, m_21, m_23, m_24, m_30, m_31, m_32, m_34, m_40, m_41, m_42, m_43]
  obtain ⟨z1, z2⟩ := th0 hQ hJ
  have b162 : (0 : Int) ≤ 162 ∧ (162 : Int) < 5148 := by decide
  refine ⟨b162, fun k => ⟨z1, z2, IV.top in_m1, trivial⟩, fun k => ?_⟩
  obtain ⟨h1, a1_w, a2, a3, a4⟩ := c242 _ z1
  have k4 : IV P (1, 0, 4) (j_up h 182 0 0 194 162) := s_cell (j := 0) (i := 162) z1 (r := 3) (x := (162, 163, (1, 0, 4))) rfl (by decide) (by decide) (by decide)
  have k5 : h1 194 (429 * 0 + 162) < 4 := by
    rw [show 429 * 0 + 162 = 162 from rfl, a4 162 (by decide)]
    have := k4.2.1
    omega
  obtain ⟨h2, b1, b2, b3⟩ := c270 h1 0 a2 (by decide) k5
  exact ⟨[], h1, a1_w, [], h2, b1, b162, b2, (z2.tr a3).tr b3, IV.top (iop_in _ _ _), trivial⟩
theorem t_272 (hJ : JS (r_T 0) J) (c224 : S224 P J g (evF xs L ck K cW g_M n)) : TotR P (r_T 0) J g (evF xs L ck K cW g_M (n + 1)) 272 := by
  refine tot_hand gm_272 rp_272 rr_272 ru_272 fun av h hQ hv => ?_
  obtain ⟨x, rfl, hx⟩ := il1 hv
  obtain rfl : x = 182 := hx
  show wS _ _ K bb_272 [182] h _
  generalize evF xs L ck K cW g_M n = F at c224 ⊢
  unfold bb_272
  simp only [wf_4, wf_40, wf_5, wf_50, wf_6, wl_1, wt_1, wu_1, wa_1, wl_4, wt_4, wu_4, wa_4, wl_5, wt_5, wu_5, wa_5, wl_6, wt_6, wu_6, wa_6, wl_9, wt_9, wu_9, wa_9, wl_10, wt_10, wu_10, wa_10, wl_11, wt_11, wu_11, wa_11, wl_13, wt_13, wu_13, wa_13, wl_14, wt_14, wu_14, wa_14, wl_15, wt_15, wu_15, wa_15, wl_16, wt_16, wu_16, wa_16, wl_17, wt_17, wu_17, wa_17, wl_20, wt_20, wu_20, wa_20, wl_21, wt_21, wu_21, wa_21, wl_22, wt_22, wu_22, wa_22, wl_23, wt_23, wu_23, wa_23, wl_24, wt_24, wu_24, wa_24, wl_26, wt_26, wu_26, wa_26, wl_27, wt_27, wu_27, wa_27, wl_28, wt_28, wu_28, wa_28, we_1, we_3, we_10, we_14, we_15, we_16, we_17, we_18, we_20, we_21, we_22, we_24, we_25, we_26, we_27, we_28, we_30, we_31, we_32, wc_20, wc_21, wc_22, wc_24, wc_25, wc_26, wc_27, wc_3, wc_4, wc_7, wc_28, wc_32, ws_1, ws_2, ws_3, ws_4, ws_9, ws_10, ws_11, ws_14, ws_15, ws_16, ws_27, ws_17, ws_20, ws_28, kc_0, kc_1, kn_1, kc_2, kn_2, kc_3, kc_4, kc_5, kc_6, kc_7, kc_8, kc_9, kc_10, kc_12, kc_13, kc_14, kc_16, kc_17, kc_18, kc_19, kc_20, kc_21, kc_22, kc_24, kc_28, kc_30, kc_32, kc_37, kc_40, kc_41, kc_42, kc_43, kc_45, kc_48, kc_56, kc_57, kc_59, kc_60, kc_61, kc_64, kc_73, kc_78, kc_91, kc_95, kc_96, kc_97, kc_98, kc_99, kc_100, kc_112, kc_122, kc_125, kc_126, kc_150, kc_162, kc_163, kc_168, kc_186, kc_190, kc_200, kc_250, kc_255, kc_355, kc_356, kc_404, kc_405, kc_429, kc_573, kc_999, kc_1000, kc_1002, kc_1100, kc_1891, kc_2200, kc_4719, kc_4869, kc_4881, kc_5148, kc_9999, kn_9999, kc_10000, kc_12345, kc_19741, kc_25433, kc_65536, kc_320403, kc_628412, kc_629093, kc_660401, kc_679843, kc_918640, kc_979410, kc_1178088, kc_6232410, kc_24644941, kc_36238189, kc_38270444, kc_392531318, kc_425693491, kc_1103515245, kc_1342154595, kc_2147483648, kc_42328242873, kc_891704255789, kc_1722105685577, kc_1858726030364, ct_0, ct_1, ct_2, ct_3, ct_4, ct_5, cf_0, cf_1, cf_2, cf_3, cf_4, cf_5, w_ty6, w_ty7, m_sv, m_z0, m_hd, m_g0, m_gs, m_s0, m_ss, m_ap, m_an, forall_const, true_and, and_true, ne_eq, not_true_eq_false, not_false_eq_true, false_implies, true_implies, implies_true, eq_self, reduceCtorEq, Nat.reduceDiv, Nat.reduceMod, Int.reduceToNat, or_true, true_or, or_false, false_or, or_self, m_it, m_if, m_c1, m_01, m_02, m_03, m_04, m_10, m_12, m_13, m_14, m_20, m_21, m_23, m_24, m_30, m_31, m_32, m_34, m_40, m_41, m_42, m_43]
  obtain ⟨z1, z2⟩ := th0 hQ hJ
  have u := q_undos z1
  generalize j_up h 182 0 0 = h1 at z1 z2 u ⊢
  refine ⟨fun k => ⟨z1, z2, ⟨by decide, by decide, in_0⟩, trivial⟩, fun k => ?_⟩
  rw [up_eq, jsub (by omega) (by omega)]
  obtain ⟨z3, z4⟩ := fd_QK z1 hJ (k := 18) (v := h1 182 18 - 1) (Or.inl rfl) ⟨by omega, by omega, by omega, by omega⟩
  obtain ⟨h2, b1, b2, b3, -⟩ := c224 _ (3 + (h1 182 18 - 1).toNat) 0 404 z3 (by omega) (by decide) (by decide) (by decide)
  rw [jadd (by omega) (by omega), jmul (by omega) (by omega)]
  rw [show 429 * (3 + (h1 182 18 - 1)) = 429 * ((3 + (h1 182 18 - 1).toNat : Nat) : Int) by omega]
  exact ⟨[], h2, b1, b2, (z2.tr z4).tr b3, ⟨by decide, by decide, in_1⟩, trivial⟩
theorem s_309 (hJ : JS (r_T 0) J) : S309 P J g (evF xs L ck K cW g_M (n + 1)) := fun h m hQ m0_w m1_w => by
  suffices hs : ∃ r h', evF xs L ck K cW g_M (n + 1) 309 [182, m] ((a_g3, g), h) = some (1, r, ((a_g3, g), h')) ∧ QK P (r_T 0) J h' ∧ KR (r_T 0) h h' ∧ ∃ v, r = [v] ∧ 0 ≤ v ∧ v < m by
    obtain ⟨r, h', e1_w, e2_w, e3_w, v, rfl, e4_w⟩ := hs
    exact ⟨v, h', e1_w, e2_w, e3_w, e4_w⟩
  refine tr_of gm_309 (B := fun r h' => QK P (r_T 0) J h' ∧ KR (r_T 0) h h' ∧ ∃ v, r = [v] ∧ 0 ≤ v ∧ v < m) ?_
  show wS _ _ K bb_309 [182, m] h _
  generalize evF xs L ck K cW g_M n = F
  unfold bb_309
  simp only [wf_4, wf_40, wf_5, wf_50, wf_6, wl_1, wt_1, wu_1, wa_1, wl_4, wt_4, wu_4, wa_4, wl_5, wt_5, wu_5, wa_5, wl_6, wt_6, wu_6, wa_6, wl_9, wt_9, wu_9, wa_9, wl_10, wt_10, wu_10, wa_10, wl_11, wt_11, wu_11, wa_11, wl_13, wt_13, wu_13, wa_13, wl_14, wt_14, wu_14, wa_14, wl_15, wt_15, wu_15, wa_15, wl_16, wt_16, wu_16, wa_16, wl_17, wt_17, wu_17, wa_17, wl_20, wt_20, wu_20, wa_20, wl_21, wt_21, wu_21, wa_21, wl_22, wt_22, wu_22, wa_22, wl_23, wt_23, wu_23, wa_23, wl_24, wt_24, wu_24, wa_24, wl_26, wt_26, wu_26, wa_26, wl_27, wt_27, wu_27, wa_27, wl_28, wt_28, wu_28, wa_28, we_1, we_3, we_10, we_14, we_15, we_16, we_17, we_18, we_20, we_21, we_22, we_24, we_25, we_26, we_27, we_28, we_30, we_31, we_32, wc_20, wc_21, wc_22, wc_24, wc_25, wc_26, wc_27, wc_3, wc_4, wc_7, wc_28, wc_32, ws_1, ws_2, ws_3, ws_4, ws_9, ws_10, ws_11, ws_14, ws_15, ws_16, ws_27, ws_17, ws_20, ws_28, kc_0, kc_1, kn_1, kc_2, kn_2, kc_3, kc_4, kc_5, kc_6, kc_7, kc_8, kc_9, kc_10, kc_12, kc_13, kc_14, kc_16, kc_17, kc_18, kc_19, kc_20, kc_21, kc_22, kc_24, kc_28, kc_30, kc_32, kc_37, kc_40, kc_41, kc_42, kc_43, kc_45, kc_48, kc_56, kc_57, kc_59, kc_60, kc_61, kc_64, kc_73, kc_78, kc_91, kc_95, kc_96, kc_97, kc_98, kc_99, kc_100, kc_112, kc_122, kc_125, kc_126, kc_150, kc_162, kc_163, kc_168, kc_186, kc_190, kc_200, kc_250, kc_255, kc_355, kc_356, kc_404, kc_405, kc_429, kc_573, kc_999, kc_1000, kc_1002, kc_1100, kc_1891, kc_2200, kc_4719, kc_4869, kc_4881, kc_5148, kc_9999, kn_9999, kc_10000, kc_12345, kc_19741, kc_25433, kc_65536, kc_320403, kc_628412, kc_629093, kc_660401, kc_679843, kc_918640, kc_979410, kc_1178088, kc_6232410, kc_24644941, kc_36238189, kc_38270444, kc_392531318, kc_425693491, kc_1103515245, kc_1342154595, kc_2147483648, kc_42328242873, kc_891704255789, kc_1722105685577, kc_1858726030364, ct_0, ct_1, ct_2, ct_3, ct_4, ct_5, cf_0, cf_1, cf_2, cf_3, cf_4, cf_5, w_ty6, w_ty7, m_sv, m_z0, m_hd, m_g0, m_gs, m_s0, m_ss, m_ap, m_an, forall_const, true_and, and_true, ne_eq, not_true_eq_false, not_false_eq_true, false_implies, true_implies, implies_true, eq_self, reduceCtorEq, Nat.reduceDiv, Nat.reduceMod, Int.reduceToNat, or_true, true_or, or_false, false_or, or_self, m_it, m_if, m_c1, m_01, m_02, m_03, m_04, m_10, m_12, m_13, m_14, m_20, m_21, m_23, m_24, m_30, m_31, m_32, m_34, m_40, m_41, m_42, m_43]
  rw [up_eq]
  obtain ⟨g0, g1, -⟩ : IV P (2, 0, 2147483647) (h 182 29) := hQ.2.1 29
  generalize h 182 29 = G at g0 g1 ⊢
  have e1_w : j_lop 0 (j_lop 2 G 1103515245) 12345 = G * 1103515245 + 12345 := by
    show j64 (j64 (G * 1103515245) + 12345) = _
    rw [j64_in (v := G * 1103515245) ⟨by omega, by omega⟩, j64_in ⟨by omega, by omega⟩]
  rw [e1_w]
  obtain ⟨k1_w, k2, k3, -⟩ := emod_bd (v := G * 1103515245 + 12345) (w := 2147483648) (by omega) (by decide)
  have e2_w : j_div 3 (G * 1103515245 + 12345) 2147483648 = (G * 1103515245 + 12345) % 2147483648 := k1_w
  rw [e2_w]
  generalize (G * 1103515245 + 12345) % 2147483648 = X at k2 k3 ⊢
  obtain ⟨z1, z2⟩ := fd_QK hQ hJ (k := 29) (v := X) (Or.inr rfl) ⟨k2, by omega, ⟨by omega, by omega⟩⟩
  refine ⟨by decide, by decide, by show ¬m = 0; omega, z1, z2, _, rfl, ?_⟩
  obtain ⟨d1_w, d2_w, d3_w⟩ := ediv_bd (v := X) (w := 65536) k2 (by decide)
  have e3_w : j_div 2 X 65536 = X / 65536 := by
    show j64 (X.tdiv 65536) = _
    rw [d1_w, j64_in ⟨by omega, by omega⟩]
  rw [e3_w]
  obtain ⟨m1', m2_w, m3_w, m4_w⟩ := emod_bd (v := X / 65536) (w := m) d2_w (by omega)
  have e4_w : j_un 3 (j_div 3 (X / 65536) (j_un 2 m)) = X / 65536 % m := by
    show j32 ((X / 65536).tmod m) = _
    rw [m1', j32_in ⟨by omega, by omega⟩]
  rw [e4_w]
  exact ⟨m2_w, m3_w⟩
theorem t_304 (hJ : JS (r_T 0) J) (c198 : TotW g (evF xs L ck K cW g_M n)) (c236 : TotR P (r_T 0) J g (evF xs L ck K cW g_M n) 236) : TotR P (r_T 0) J g (evF xs L ck K cW g_M (n + 1)) 304 := by
  refine tot_hand gm_304 rp_304 rr_304 ru_304 fun av h hQ hv => ?_
  obtain ⟨x, a, b, c, rfl, hx, ha_w, hb_w, hc_w⟩ := il4 hv
  obtain rfl : x = 182 := hx
  show wS _ _ K bb_304 [182, a, b, c, 0] h _
  generalize evF xs L ck K cW g_M n = F at c198 c236 ⊢
  unfold bb_304
  simp only [wf_4, wf_40, wf_5, wf_50, wf_6, wl_1, wt_1, wu_1, wa_1, wl_4, wt_4, wu_4, wa_4, wl_5, wt_5, wu_5, wa_5, wl_6, wt_6, wu_6, wa_6, wl_9, wt_9, wu_9, wa_9, wl_10, wt_10, wu_10, wa_10, wl_11, wt_11, wu_11, wa_11, wl_13, wt_13, wu_13, wa_13, wl_14, wt_14, wu_14, wa_14, wl_15, wt_15, wu_15, wa_15, wl_16, wt_16, wu_16, wa_16, wl_17, wt_17, wu_17, wa_17, wl_20, wt_20, wu_20, wa_20, wl_21, wt_21, wu_21, wa_21, wl_22, wt_22, wu_22, wa_22, wl_23, wt_23, wu_23, wa_23, wl_24, wt_24, wu_24, wa_24, wl_26, wt_26, wu_26, wa_26, wl_27, wt_27, wu_27, wa_27, wl_28, wt_28, wu_28, wa_28, we_1, we_3, we_10, we_14, we_15, we_16, we_17, we_18, we_20, we_21, we_22, we_24, we_25, we_26, we_27, we_28, we_30, we_31, we_32, wc_20, wc_21, wc_22, wc_24, wc_25, wc_26, wc_27, wc_3, wc_4, wc_7, wc_28, wc_32, ws_1, ws_2, ws_3, ws_4, ws_9, ws_10, ws_11, ws_14, ws_15, ws_16, ws_27, ws_17, ws_20, ws_28, kc_0, kc_1, kn_1, kc_2, kn_2, kc_3, kc_4, kc_5, kc_6, kc_7, kc_8, kc_9, kc_10, kc_12, kc_13, kc_14, kc_16, kc_17, kc_18, kc_19, kc_20, kc_21, kc_22, kc_24, kc_28, kc_30, kc_32, kc_37, kc_40, kc_41, kc_42, kc_43, kc_45, kc_48, kc_56, kc_57, kc_59, kc_60, kc_61, kc_64, kc_73, kc_78, kc_91, kc_95, kc_96, kc_97, kc_98, kc_99, kc_100, kc_112, kc_122, kc_125, kc_126, kc_150, kc_162, kc_163, kc_168, kc_186, kc_190, kc_200, kc_250, kc_255, kc_355, kc_356, kc_404, kc_405, kc_429, kc_573, kc_999, kc_1000, kc_1002, kc_1100, kc_1891, kc_2200, kc_4719, kc_4869, kc_4881, kc_5148, kc_9999, kn_9999, kc_10000, kc_12345, kc_19741, kc_25433, kc_65536, kc_320403, kc_628412, kc_629093, kc_660401, kc_679843, kc_918640, kc_979410, kc_1178088, kc_6232410, kc_24644941, kc_36238189, kc_38270444, kc_392531318, kc_425693491, kc_1103515245, kc_1342154595, kc_2147483648, kc_42328242873, kc_891704255789, kc_1722105685577, kc_1858726030364, ct_0, ct_1, ct_2, ct_3, ct_4, ct_5, cf_0, cf_1, cf_2, cf_3, cf_4, cf_5, w_ty6, w_ty7, m_sv, m_z0, m_hd, m_g0, m_gs, m_s0, m_ss, m_ap, m_an, forall_const, true_and, and_true, ne_eq, not_true_eq_false, not_false_eq_true, false_implies, true_implies, implies_true, eq_self, reduceCtorEq, Nat.reduceDiv, Nat.reduceMod, Int.reduceToNat, or_true, true_or, or_false, false_or, or_self, m_it, m_if, m_c1, m_01, m_02, m_03, m_04, m_10, m_12, m_13, m_14, m_20, m_21, m_23, m_24, m_30, m_31, m_32, m_34, m_40, m_41, m_42, m_43]
  obtain ⟨z1, z2⟩ := th0 hQ hJ
  obtain ⟨r, h1, a1_w, a2, a3, a4, a5⟩ := c236 [182, a] _ z1 (by rw [rp_236]; exact ⟨rfl, ha_w, trivial⟩)
  rw [rr_236] at a4
  obtain ⟨v, rfl, -⟩ := IL.one a4
  have no : ∀ h', QK P (r_T 0) J h' → KR (r_T 0) h h' → QK P (r_T 0) J h' ∧ KR (r_T 0) h h' ∧ IL P [(1, 0, 1)] [0] := fun h' k1_w k2 => ⟨k1_w, k2, ⟨by decide, by decide, in_0⟩, trivial⟩
  refine ⟨[v], h1, a1_w, fun k1_w => ⟨_, h1, c198 b (-9999) 9999 h1, fun k2 => ?_, fun _ => no _ a2 (z2.tr a3)⟩, fun _ => no _ a2 (z2.tr a3)⟩
  have b404 : (0 : Int) ≤ 404 ∧ (404 : Int) < 5148 := by decide
  have k4 : IV P (1, 0, 8) (h1 194 404) := s_cell (j := 0) (i := 404) a2 (r := 6) (x := (404, 405, (1, 0, 8))) rfl (by decide) (by decide) (by decide)
  obtain ⟨m0_w, m1_w, -⟩ := k4
  generalize hM_w : h1 194 404 = M at m0_w m1_w
  refine ⟨b404, fun _ => no _ a2 (z2.tr a3), fun k3 => ?_⟩
  have a6 := a5 k1_w
  rw [ru_236] at a6
  obtain ⟨-, hsl, -⟩ := a6
  obtain ⟨s0, s1_w, s2_w⟩ := hsl
  have e1_w : j_iop 0 405 (j_iop 2 3 M) = 405 + 3 * M := by simp (disch := omega) only [jmul, jadd]
  have e2_w : j_iop 0 (405 + 3 * M) 1 = 405 + 3 * M + 1 := jadd (by omega) (by omega)
  have e3_w : j_iop 0 (405 + 3 * M) 2 = 405 + 3 * M + 2 := jadd (by omega) (by omega)
  rw [e1_w, e2_w, e3_w]
  obtain ⟨q, rfl, hq⟩ : ∃ q : Nat, M = (q : Int) ∧ q < 8 := ⟨M.toNat, by omega, by omega⟩
  have f1_w : (405 + 3 * (q : Int)).toNat = 429 * 0 + (405 + 3 * q) := by omega
  have f2_w : (405 + 3 * (q : Int) + 1).toNat = 429 * 0 + (406 + 3 * q) := by omega
  have f3_w : (405 + 3 * (q : Int) + 2).toNat = 429 * 0 + (407 + 3 * q) := by omega
  rw [f1_w, f2_w, f3_w]
  have all1 : (List.range 8).all (fun k => st_fit (405 + 3 * k) (406 + 3 * k) (1, 0, 11) && st_fit (406 + 3 * k) (407 + 3 * k) iT && st_fit (407 + 3 * k) (408 + 3 * k) (1, 0, 1)) = true := by decide +kernel
  have g1 := List.all_eq_true.mp all1 q (List.mem_range.mpr hq)
  simp only [Bool.and_eq_true] at g1
  obtain ⟨⟨g1, g2⟩, g3_w⟩ := g1
  obtain ⟨y1, y2⟩ := st_QK a2 hJ (j := 0) (i := 405 + 3 * q) (v := a) (by decide) (by omega) (st_fit_ok g1 (by omega) (by omega) ⟨s0, s1_w, s2_w⟩) s2_w
  obtain ⟨y3, y4⟩ := st_QK y1 hJ (j := 0) (i := 406 + 3 * q) (v := b) (by decide) (by omega) (st_fit_ok g2 (by omega) (by omega) hb_w) hb_w.2.2
  have fin_w : ∀ w : Int, 0 ≤ w → w ≤ 1 → QK P (r_T 0) J (j_up (j_up (j_up (j_up h1 194 (429 * 0 + (405 + 3 * q)) a) 194 (429 * 0 + (406 + 3 * q)) b) 194 (429 * 0 + (407 + 3 * q)) w) 194 404 (j_iop 0 (j_up (j_up (j_up h1 194 (429 * 0 + (405 + 3 * q)) a) 194 (429 * 0 + (406 + 3 * q)) b) 194 (429 * 0 + (407 + 3 * q)) w 194 404) 1)) ∧ KR (r_T 0) h (j_up (j_up (j_up (j_up h1 194 (429 * 0 + (405 + 3 * q)) a) 194 (429 * 0 + (406 + 3 * q)) b) 194 (429 * 0 + (407 + 3 * q)) w) 194 404 (j_iop 0 (j_up (j_up (j_up h1 194 (429 * 0 + (405 + 3 * q)) a) 194 (429 * 0 + (406 + 3 * q)) b) 194 (429 * 0 + (407 + 3 * q)) w 194 404) 1)) ∧ IL P [(1, 0, 1)] [1] := by
    intro w w0_w w1_w
    obtain ⟨y5, y6⟩ := st_QK y3 hJ (j := 0) (i := 407 + 3 * q) (v := w) (by decide) (by omega) (st_fit_ok g3_w (by omega) (by omega) ⟨w0_w, w1_w, ⟨by omega, by omega⟩⟩) ⟨by omega, by omega⟩
    rw [up_ne (fun z => by have := z.2; omega), up_ne (fun z => by have := z.2; omega), up_ne (fun z => by have := z.2; omega), hM_w, jadd (by omega) (by omega)]
    obtain ⟨y7, y8⟩ := st_QK y5 hJ (j := 0) (i := 404) (v := (q : Int) + 1) (by decide) (by decide) (st_fit_ok (lo_w := 404) (hi_w := 405) (t := (1, 0, 8)) (by decide +kernel) (by decide) (by decide) ⟨by omega, by omega, ⟨by omega, by omega⟩⟩) ⟨by omega, by omega⟩
    exact ⟨y7, ((((z2.tr a3).tr y2).tr y4).tr y6).tr y8, ⟨by decide, by decide, in_1⟩, trivial⟩
  refine ⟨b404, ⟨by omega, by omega⟩, ⟨by omega, by omega⟩, fun _ => ⟨⟨by omega, by omega⟩, b404, ?_⟩, fun _ => ⟨⟨by omega, by omega⟩, b404, ?_⟩⟩
  · exact fin_w 1 (by decide) (by decide)
  · exact fin_w 0 (by decide) (by decide)
theorem t_311 (hJ : JS (r_T 0) J) (c198 : TotW g (evF xs L ck K cW g_M n)) (c224 : S224 P J g (evF xs L ck K cW g_M n)) : TotR P (r_T 0) J g (evF xs L ck K cW g_M (n + 1)) 311 := by
  refine tot_hand gm_311 rp_311 rr_311 ru_311 fun av h hQ hv => ?_
  obtain ⟨x, a, b, rfl, hx, ha_w, hb_w⟩ := il3 hv
  obtain rfl : x = 182 := hx
  show wS _ _ K bb_311 [182, a, b] h _
  generalize evF xs L ck K cW g_M n = F at c198 c224 ⊢
  unfold bb_311
  simp only [wf_4, wf_40, wf_5, wf_50, wf_6, wl_1, wt_1, wu_1, wa_1, wl_4, wt_4, wu_4, wa_4, wl_5, wt_5, wu_5, wa_5, wl_6, wt_6, wu_6, wa_6, wl_9, wt_9, wu_9, wa_9, wl_10, wt_10, wu_10, wa_10, wl_11, wt_11, wu_11, wa_11, wl_13, wt_13, wu_13, wa_13, wl_14, wt_14, wu_14, wa_14, wl_15, wt_15, wu_15, wa_15, wl_16, wt_16, wu_16, wa_16, wl_17, wt_17, wu_17, wa_17, wl_20, wt_20, wu_20, wa_20, wl_21, wt_21, wu_21, wa_21, wl_22, wt_22, wu_22, wa_22, wl_23, wt_23, wu_23, wa_23, wl_24, wt_24, wu_24, wa_24, wl_26, wt_26, wu_26, wa_26, wl_27, wt_27, wu_27, wa_27, wl_28, wt_28, wu_28, wa_28, we_1, we_3, we_10, we_14, we_15, we_16, we_17, we_18, we_20, we_21, we_22, we_24, we_25, we_26, we_27, we_28, we_30, we_31, we_32, wc_20, wc_21, wc_22, wc_24, wc_25, wc_26, wc_27, wc_3, wc_4, wc_7, wc_28, wc_32, ws_1, ws_2, ws_3, ws_4, ws_9, ws_10, ws_11, ws_14, ws_15, ws_16, ws_27, ws_17, ws_20, ws_28, kc_0, kc_1, kn_1, kc_2, kn_2, kc_3, kc_4, kc_5, kc_6, kc_7, kc_8, kc_9, kc_10, kc_12, kc_13, kc_14, kc_16, kc_17, kc_18, kc_19, kc_20, kc_21, kc_22, kc_24, kc_28, kc_30, kc_32, kc_37, kc_40, kc_41, kc_42, kc_43, kc_45, kc_48, kc_56, kc_57, kc_59, kc_60, kc_61, kc_64, kc_73, kc_78, kc_91, kc_95, kc_96, kc_97, kc_98, kc_99, kc_100, kc_112, kc_122, kc_125, kc_126, kc_150, kc_162, kc_163, kc_168, kc_186, kc_190, kc_200, kc_250, kc_255, kc_355, kc_356, kc_404, kc_405, kc_429, kc_573, kc_999, kc_1000, kc_1002, kc_1100, kc_1891, kc_2200, kc_4719, kc_4869, kc_4881, kc_5148, kc_9999, kn_9999, kc_10000, kc_12345, kc_19741, kc_25433, kc_65536, kc_320403, kc_628412, kc_629093, kc_660401, kc_679843, kc_918640, kc_979410, kc_1178088, kc_6232410, kc_24644941, kc_36238189, kc_38270444, kc_392531318, kc_425693491, kc_1103515245, kc_1342154595, kc_2147483648, kc_42328242873, kc_891704255789, kc_1722105685577, kc_1858726030364, ct_0, ct_1, ct_2, ct_3, ct_4, ct_5, cf_0, cf_1, cf_2, cf_3, cf_4, cf_5, w_ty6, w_ty7, m_sv, m_z0, m_hd, m_g0, m_gs, m_s0, m_ss, m_ap, m_an, forall_const, true_and, and_true, ne_eq, not_true_eq_false, not_false_eq_true, false_implies, true_implies, implies_true, eq_self, reduceCtorEq, Nat.reduceDiv, Nat.reduceMod, Int.reduceToNat, or_true, true_or, or_false, false_or, or_self, m_it, m_if, m_c1, m_01, m_02, m_03, m_04, m_10, m_12, m_13, m_14, m_20, m_21, m_23, m_24, m_30, m_31, m_32, m_34, m_40, m_41, m_42, m_43]
  obtain ⟨z1, z2⟩ := th0 hQ hJ
  generalize j_up h 182 0 0 = h1 at z1 z2 ⊢
  have no : QK P (r_T 0) J h1 ∧ KR (r_T 0) h h1 ∧ IL P [(1, 0, 1)] [0] := ⟨z1, z2, ⟨by decide, by decide, in_0⟩, trivial⟩
  refine ⟨_, h1, c198 a 0 1 h1, fun k1_w => ?_, fun _ => no⟩
  simp only [m_hd] at k1_w
  have k2 := b_ne k1_w
  rw [Bool.and_eq_true, decide_eq_true_eq, decide_eq_true_eq] at k2
  have ba_w : 0 ≤ a ∧ a < 2 := ⟨k2.1, by omega⟩
  have w9 : w_ty 9 1 = 1 := by decide
  rw [w9]
  have hH : HT g_fk a_g3 (j_up h1 195 a.toNat 1) := by
    have hk : r_kd 195 = 100 := by decide +kernel
    have h3 := (((r_tab 0).2.2.1 195 (by decide) (by decide)).2.2.2 a.toNat).trans hk
    exact z1.1.up (fun e => absurd (h3.symm.trans e) (by decide)) (fun e => absurd (h3.symm.trans e) (by decide)) (fun _ => Or.inr rfl)
  obtain ⟨z3, z4⟩ := un_QK (q := 195) (i := a.toNat) (v := 1) (t := (1, 0, 1)) z1 hJ (by decide +kernel) (by decide) (by decide +kernel) ⟨by decide, by decide, in_1⟩ hH
  have e1_w : j_iop 2 429 (j_iop 0 1 a) = 429 * ((1 + a.toNat : Nat) : Int) := by
    simp (disch := omega) only [jmul, jadd]
    omega
  rw [e1_w]
  have yes_w : ∀ (i j : Nat) (u : XH → Int), i < 12 → j < 12 → (∀ h2, QK P (r_T 0) J h2 → 0 ≤ u h2 ∧ u h2 ≤ 8) → ∃ r h2, F 224 [182, 429 * (i : Int), 429 * (j : Int), 429] ((a_g3, g), j_up h1 195 a.toNat 1) = some (1, r, ((a_g3, g), h2)) ∧ QK P (r_T 0) J (j_up h2 182 18 (u h2)) ∧ KR (r_T 0) h (j_up h2 182 18 (u h2)) ∧ IL P [(1, 0, 1)] [1] := by
    intro i j u hi_w hj hu
    obtain ⟨h2, x1_w, x2_w, x3, -⟩ := c224 _ i j 429 z3 hi_w hj (by decide) (by decide)
    obtain ⟨u0, u1⟩ := hu h2 x2_w
    obtain ⟨x4_w, x5_w⟩ := fd_QK x2_w hJ (k := 18) (v := u h2) (Or.inl rfl) ⟨u0, u1, ⟨by omega, by omega⟩⟩
    exact ⟨[], h2, x1_w, x4_w, ((z2.tr z4).tr x3).tr x5_w, ⟨by decide, by decide, in_1⟩, trivial⟩
  have back : ¬b = 0 → ∃ r h2, F 224 [182, 429 * ((1 + a.toNat : Nat) : Int), 0, 429] ((a_g3, g), j_up h1 195 a.toNat 1) = some (1, r, ((a_g3, g), h2)) ∧ (¬b = 0 → QK P (r_T 0) J (j_up h2 182 18 0) ∧ KR (r_T 0) h (j_up h2 182 18 0) ∧ IL P [(1, 0, 1)] [1]) ∧ (b = 0 → QK P (r_T 0) J (j_up h2 182 18 (h2 182 18)) ∧ KR (r_T 0) h (j_up h2 182 18 (h2 182 18)) ∧ IL P [(1, 0, 1)] [1]) := fun hb0 => by
    obtain ⟨r, h2, y1, y2⟩ := yes_w (1 + a.toNat) 0 (fun _ => 0) (by omega) (by decide) (fun _ _ => ⟨by decide, by decide⟩)
    exact ⟨r, h2, y1, fun _ => y2, fun k => absurd k hb0⟩
  have lay : b = 0 → ∃ r h2, F 224 [182, 0, 429 * ((1 + a.toNat : Nat) : Int), 429] ((a_g3, g), j_up h1 195 a.toNat 1) = some (1, r, ((a_g3, g), h2)) ∧ (¬b = 0 → QK P (r_T 0) J (j_up h2 182 18 0) ∧ KR (r_T 0) h (j_up h2 182 18 0) ∧ IL P [(1, 0, 1)] [1]) ∧ (b = 0 → QK P (r_T 0) J (j_up h2 182 18 (h2 182 18)) ∧ KR (r_T 0) h (j_up h2 182 18 (h2 182 18)) ∧ IL P [(1, 0, 1)] [1]) := fun hb0 => by
    obtain ⟨r, h2, y1, y2⟩ := yes_w 0 (1 + a.toNat) (fun h2 => h2 182 18) (by decide) (by omega) (fun h2 k => q_undos k)
    exact ⟨r, h2, y1, fun k => absurd hb0 k, fun _ => y2⟩
  refine ⟨fun hb0 => ⟨ba_w, fun _ => ⟨ba_w, fun _ => ⟨fun _ => back hb0, fun k => absurd k hb0⟩, fun k => absurd k hb0⟩, fun _ => no⟩, fun hb0 => ⟨ba_w, fun k => absurd hb0 k, fun _ => ⟨fun k => absurd hb0 k, fun _ => lay hb0⟩⟩⟩
end HAA
