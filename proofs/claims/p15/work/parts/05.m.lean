section
/-! ===== the reference's methods by hand_w: what a meter used_w ===== -/
def S232 (P : Int × Int) (J : XH → Prop) (g : Nat × Nat) (F : XP) : Prop := ∀ (h : XH) (c s : Int), QK P (r_T 0) J h → IV P (6, 0, 0) c → 0 ≤ s → s ≤ 12 → ∃ v, F 232 [182, c, s] ((a_g3, g), h) = some (1, [v], ((a_g3, g), h)) ∧ IV P (1, 0, 99) v
def S244 (P : Int × Int) (J : XH → Prop) (g : Nat × Nat) (F : XP) : Prop := ∀ (h : XH) (b m f : Int), QK P (r_T 0) J h → IV P (3, 0, 0) b → IV P (5, 0, 0) m → -1 ≤ f → f ≤ 12 → ∃ v h', F 244 [182, b, m, f] ((a_g3, g), h) = some (1, [v], ((a_g3, g), h')) ∧ QK P (r_T 0) J h' ∧ KR (r_T 0) h h' ∧ -1 ≤ v ∧ v ≤ f
def S245 (P : Int × Int) (J : XH → Prop) (g : Nat × Nat) (F : XP) : Prop := ∀ (h : XH) (b m f : Int), QK P (r_T 0) J h → IV P (3, 0, 0) b → IV P (5, 0, 0) m → 0 ≤ f → f ≤ 12 → ∃ v h', F 245 [182, b, m, f] ((a_g3, g), h) = some (1, [v], ((a_g3, g), h')) ∧ QK P (r_T 0) J h' ∧ KR (r_T 0) h h' ∧ (v = -1 ∨ f < v ∧ v ≤ 12)
def S247 (P : Int × Int) (J : XH → Prop) (g : Nat × Nat) (F : XP) : Prop := ∀ (h : XH) (c f t e : Int), QK P (r_T 0) J h → IV P (6, 0, 0) c → 0 ≤ f → f ≤ 12 → 0 ≤ t → t ≤ 13 → 0 ≤ e → e ≤ 12 → ∃ v h', F 247 [182, c, f, t, e] ((a_g3, g), h) = some (1, [v], ((a_g3, g), h')) ∧ QK P (r_T 0) J h' ∧ KR (r_T 0) h h' ∧ InI v ∧ (f < e → e ≤ t → 1 ≤ v)
def S248 (P : Int × Int) (J : XH → Prop) (g : Nat × Nat) (F : XP) : Prop := ∀ (h : XH) (b m f t e : Int), QK P (r_T 0) J h → IV P (3, 0, 0) b → IV P (5, 0, 0) m → 0 ≤ f → f < e → e ≤ 12 → 0 ≤ t → t ≤ 13 → ∃ v h', F 248 [182, b, m, f, t, e] ((a_g3, g), h) = some (1, [v], ((a_g3, g), h')) ∧ QK P (r_T 0) J h' ∧ KR (r_T 0) h h' ∧ InI v
section HA3
variable {P : Int × Int} {g : Nat × Nat} {xs : Nat → Int} {L K n : Nat} {ck : Nat → List Nat} {cW : Nat → Nat → Int} {h : XH} {J : XH → Prop}
theorem s_232 : S232 P (RJ P) g (evF xs L ck K cW g_M (n + 1)) := fun h c s hQ hc_w s0 s1_w => by
  obtain ⟨r, h', e1_w, rfl, v, rfl, e2_w⟩ := m_232 (xs := xs) (L := L) (ck := ck) (cW := cW) (n := n) (K := K) (g := g) hQ hc_w s0 s1_w
  exact ⟨v, e1_w, e2_w⟩
theorem il_bmp {b m p : Int} (hb_w : IV P (3, 0, 0) b) (hm_w : IV P (5, 0, 0) m) (p0 : 0 ≤ p) (p1_w : p ≤ 12) : IL P [(4, 182, 182), (3, 0, 0), (5, 0, 0), (1, 0, 12)] [182, b, m, p] := ⟨rfl, hb_w, hm_w, ⟨p0, p1_w, ⟨by omega, by omega⟩⟩, trivial⟩
theorem s_244 (hK_w : 4294967300 ≤ K) (c243 : TotR P (r_T 0) J g (evF xs L ck K cW g_M n) 243) : S244 P J g (evF xs L ck K cW g_M (n + 1)) := fun h b m f hQ hb_w hm_w f0_w f1_w => by
  suffices hs : ∃ r h', evF xs L ck K cW g_M (n + 1) 244 [182, b, m, f] ((a_g3, g), h) = some (1, r, ((a_g3, g), h')) ∧ QK P (r_T 0) J h' ∧ KR (r_T 0) h h' ∧ ∃ v, r = [v] ∧ -1 ≤ v ∧ v ≤ f by
    obtain ⟨r, h', e1_w, e2_w, e3_w, v, rfl, e4_w⟩ := hs
    exact ⟨v, h', e1_w, e2_w, e3_w, e4_w⟩
  refine tr_of gm_244 (B := fun r h' => QK P (r_T 0) J h' ∧ KR (r_T 0) h h' ∧ ∃ v, r = [v] ∧ -1 ≤ v ∧ v ≤ f) ?_
  show wS _ _ K bb_244 [182, b, m, f, 0] h _
  generalize evF xs L ck K cW g_M n = F at c243 ⊢
  unfold bb_244
  simp only [wf_4, wf_40, wf_5, wf_50, wf_6, wl_1, wt_1, wu_1, wa_1, wl_4, wt_4, wu_4, wa_4, wl_5, wt_5, wu_5, wa_5, wl_6, wt_6, wu_6, wa_6, wl_9, wt_9, wu_9, wa_9, wl_10, wt_10, wu_10, wa_10, wl_11, wt_11, wu_11, wa_11, wl_13, wt_13, wu_13, wa_13, wl_14, wt_14, wu_14, wa_14, wl_15, wt_15, wu_15, wa_15, wl_16, wt_16, wu_16, wa_16, wl_17, wt_17, wu_17, wa_17, wl_20, wt_20, wu_20, wa_20, wl_21, wt_21, wu_21, wa_21, wl_22, wt_22, wu_22, wa_22, wl_23, wt_23, wu_23, wa_23, wl_24, wt_24, wu_24, wa_24, wl_26, wt_26, wu_26, wa_26, wl_27, wt_27, wu_27, wa_27, wl_28, wt_28, wu_28, wa_28, we_1, we_3, we_10, we_14, we_15, we_16, we_17, we_18, we_20, we_21, we_22, we_24, we_25, we_26, we_27, we_28, we_30, we_31, we_32, wc_20, wc_21, wc_22, wc_24, wc_25, wc_26, wc_27, wc_3, wc_4, wc_7, wc_28, wc_32, ws_1, ws_2, ws_3, ws_4, ws_9, ws_10, ws_11, ws_14, ws_15, ws_16, ws_27, ws_17, ws_20, ws_28, kc_0, kc_1, kn_1, kc_2, kn_2, kc_3, kc_4, kc_5, kc_6, kc_7, kc_8, kc_9, kc_10, kc_12, kc_13, kc_14, kc_16, kc_17, kc_18, kc_19, kc_20, kc_21, kc_22, kc_24, kc_28, kc_30, kc_32, kc_37, kc_40, kc_41, kc_42, kc_43, kc_45, kc_48, kc_56, kc_57, kc_59, kc_60, kc_61, kc_64, kc_73, kc_78, kc_91, kc_95, kc_96, kc_97, kc_98, kc_99, kc_100, kc_112, kc_122, kc_125, kc_126, kc_150, kc_162, kc_163, kc_168, kc_186, kc_190, kc_200, kc_250, kc_255, kc_355, kc_356, kc_404, kc_405, kc_429, kc_573, kc_999, kc_1000, kc_1002, kc_1100, kc_1891, kc_2200, kc_4719, kc_4869, kc_4881, kc_5148, kc_9999, kn_9999, kc_10000, kc_12345, kc_19741, kc_25433, kc_65536, kc_320403, kc_628412, kc_629093, kc_660401, kc_679843, kc_918640, kc_979410, kc_1178088, kc_6232410, kc_24644941, kc_36238189, kc_38270444, kc_392531318, kc_425693491, kc_1103515245, kc_1342154595, kc_2147483648, kc_42328242873, kc_891704255789, kc_1722105685577, kc_1858726030364, ct_0, ct_1, ct_2, ct_3, ct_4, ct_5, cf_0, cf_1, cf_2, cf_3, cf_4, cf_5, w_ty6, w_ty7, m_sv, m_z0, m_hd, m_g0, m_gs, m_s0, m_ss, m_ap, m_an, forall_const, true_and, and_true, ne_eq, not_true_eq_false, not_false_eq_true, false_implies, true_implies, implies_true, eq_self, reduceCtorEq, Nat.reduceDiv, Nat.reduceMod, Int.reduceToNat, or_true, true_or, or_false, false_or, or_self, m_it, m_if, m_c1, m_01, m_02, m_03, m_04, m_10, m_12, m_13, m_14, m_20, m_21, m_23, m_24, m_30, m_31, m_32, m_34, m_40, m_41, m_42, m_43]
  refine w_lp (fun en h' => ∃ p : Int, en = [182, b, m, f, p] ∧ -1 ≤ p ∧ p ≤ f ∧ QK P (r_T 0) J h' ∧ KR (r_T 0) h h') (fun en _ => (en.getD 4 0 + 1).toNat) ⟨f, rfl, f0_w, by omega, hQ, KR.rf⟩ ?_
  rintro en h1 ⟨p, rfl, p0, p1_w, q1_w, q2_w⟩
  refine ⟨?_, ?_⟩
  · show (p + 1).toNat < K
    omega
  simp only [wf_4, wf_40, wf_5, wf_50, wf_6, wl_1, wt_1, wu_1, wa_1, wl_4, wt_4, wu_4, wa_4, wl_5, wt_5, wu_5, wa_5, wl_6, wt_6, wu_6, wa_6, wl_9, wt_9, wu_9, wa_9, wl_10, wt_10, wu_10, wa_10, wl_11, wt_11, wu_11, wa_11, wl_13, wt_13, wu_13, wa_13, wl_14, wt_14, wu_14, wa_14, wl_15, wt_15, wu_15, wa_15, wl_16, wt_16, wu_16, wa_16, wl_17, wt_17, wu_17, wa_17, wl_20, wt_20, wu_20, wa_20, wl_21, wt_21, wu_21, wa_21, wl_22, wt_22, wu_22, wa_22, wl_23, wt_23, wu_23, wa_23, wl_24, wt_24, wu_24, wa_24, wl_26, wt_26, wu_26, wa_26, wl_27, wt_27, wu_27, wa_27, wl_28, wt_28, wu_28, wa_28, we_1, we_3, we_10, we_14, we_15, we_16, we_17, we_18, we_20, we_21, we_22, we_24, we_25, we_26, we_27, we_28, we_30, we_31, we_32, wc_20, wc_21, wc_22, wc_24, wc_25, wc_26, wc_27, wc_3, wc_4, wc_7, wc_28, wc_32, ws_1, ws_2, ws_3, ws_4, ws_9, ws_10, ws_11, ws_14, ws_15, ws_16, ws_27, ws_17, ws_20, ws_28, kc_0, kc_1, kn_1, kc_2, kn_2, kc_3, kc_4, kc_5, kc_6, kc_7, kc_8, kc_9, kc_10, kc_12, kc_13, kc_14, kc_16, kc_17, kc_18, kc_19, kc_20, kc_21, kc_22, kc_24, kc_28, kc_30, kc_32, kc_37, kc_40, kc_41, kc_42, kc_43, kc_45, kc_48, kc_56, kc_57, kc_59, kc_60, kc_61, kc_64, kc_73, kc_78, kc_91, kc_95, kc_96, kc_97, kc_98, kc_99, kc_100, kc_112, kc_122, kc_125, kc_126, kc_150, kc_162, kc_163, kc_168, kc_186, kc_190, kc_200, kc_250, kc_255, kc_355, kc_356, kc_404, kc_405, kc_429, kc_573, kc_999, kc_1000, kc_1002, kc_1100, kc_1891, kc_2200, kc_4719, kc_4869, kc_4881, kc_5148, kc_9999, kn_9999, kc_10000, kc_12345, kc_19741, kc_25433, kc_65536, kc_320403, kc_628412, kc_629093, kc_660401, kc_679843, kc_918640, kc_979410, kc_1178088, kc_6232410, kc_24644941, kc_36238189, kc_38270444, kc_392531318, kc_425693491, kc_1103515245, kc_1342154595, kc_2147483648, kc_42328242873, kc_891704255789, kc_1722105685577, kc_1858726030364, ct_0, ct_1, ct_2, ct_3, ct_4, ct_5, cf_0, cf_1, cf_2, cf_3, cf_4, cf_5, w_ty6, w_ty7, m_sv, m_z0, m_hd, m_g0, m_gs, m_s0, m_ss, m_ap, m_an, forall_const, true_and, and_true, ne_eq, not_true_eq_false, not_false_eq_true, false_implies, true_implies, implies_true, eq_self, reduceCtorEq, Nat.reduceDiv, Nat.reduceMod, Int.reduceToNat, or_true, true_or, or_false, false_or, or_self, m_it, m_if, m_c1, m_01, m_02, m_03, m_04, m_10, m_12, m_13, m_14, m_20, m_21, m_23, m_24, m_30, m_31, m_32, m_34, m_40, m_41, m_42, m_43]
  refine ⟨fun hp => ?_, fun hp => ⟨q1_w, q2_w, p, rfl, p0, p1_w⟩⟩
  obtain ⟨v, h2, e1_w, e2_w, e3_w, e4_w⟩ := use1 c243 rp_243 rr_243 q1_w (il_bmp hb_w hm_w hp (by omega))
  refine ⟨[v], h2, e1_w, fun hv => ?_, fun hv => ⟨e2_w, q2_w.tr e3_w, p, rfl, p0, p1_w⟩⟩
  rw [show j32 (p + -1) = p - 1 from jdec (by omega) (by omega)]
  refine ⟨⟨p - 1, rfl, by omega, by omega, e2_w, q2_w.tr e3_w⟩, ?_⟩
  show (p - 1 + 1).toNat < (p + 1).toNat
  omega
theorem s_245 (hK_w : 4294967300 ≤ K) (c243 : TotR P (r_T 0) J g (evF xs L ck K cW g_M n) 243) (c225 : TotR P (r_T 0) J g (evF xs L ck K cW g_M n) 225) : S245 P J g (evF xs L ck K cW g_M (n + 1)) := fun h b m f hQ hb_w hm_w f0_w f1_w => by
  suffices hs : ∃ r h', evF xs L ck K cW g_M (n + 1) 245 [182, b, m, f] ((a_g3, g), h) = some (1, r, ((a_g3, g), h')) ∧ QK P (r_T 0) J h' ∧ KR (r_T 0) h h' ∧ ∃ v, r = [v] ∧ (v = -1 ∨ f < v ∧ v ≤ 12) by
    obtain ⟨r, h', e1_w, e2_w, e3_w, v, rfl, e4_w⟩ := hs
    exact ⟨v, h', e1_w, e2_w, e3_w, e4_w⟩
  refine tr_of gm_245 (B := fun r h' => QK P (r_T 0) J h' ∧ KR (r_T 0) h h' ∧ ∃ v, r = [v] ∧ (v = -1 ∨ f < v ∧ v ≤ 12)) ?_
  show wS _ _ K bb_245 [182, b, m, f, 0] h _
  generalize evF xs L ck K cW g_M n = F at c243 c225 ⊢
  unfold bb_245
  simp only [wf_4, wf_40, wf_5, wf_50, wf_6, wl_1, wt_1, wu_1, wa_1, wl_4, wt_4, wu_4, wa_4, wl_5, wt_5, wu_5, wa_5, wl_6, wt_6, wu_6, wa_6, wl_9, wt_9, wu_9, wa_9, wl_10, wt_10, wu_10, wa_10, wl_11, wt_11, wu_11, wa_11, wl_13, wt_13, wu_13, wa_13, wl_14, wt_14, wu_14, wa_14, wl_15, wt_15, wu_15, wa_15, wl_16, wt_16, wu_16, wa_16, wl_17, wt_17, wu_17, wa_17, wl_20, wt_20, wu_20, wa_20, wl_21, wt_21, wu_21, wa_21, wl_22, wt_22, wu_22, wa_22, wl_23, wt_23, wu_23, wa_23, wl_24, wt_24, wu_24, wa_24, wl_26, wt_26, wu_26, wa_26, wl_27, wt_27, wu_27, wa_27, wl_28, wt_28, wu_28, wa_28, we_1, we_3, we_10, we_14, we_15, we_16, we_17, we_18, we_20, we_21, we_22, we_24, we_25, we_26, we_27, we_28, we_30, we_31, we_32, wc_20, wc_21, wc_22, wc_24, wc_25, wc_26, wc_27, wc_3, wc_4, wc_7, wc_28, wc_32, ws_1, ws_2, ws_3, ws_4, ws_9, ws_10, ws_11, ws_14, ws_15, ws_16, ws_27, ws_17, ws_20, ws_28, kc_0, kc_1, kn_1, kc_2, kn_2, kc_3, kc_4, kc_5, kc_6, kc_7, kc_8, kc_9, kc_10, kc_12, kc_13, kc_14, kc_16, kc_17, kc_18, kc_19, kc_20, kc_21, kc_22, kc_24, kc_28, kc_30, kc_32, kc_37, kc_40, kc_41, kc_42, kc_43, kc_45, kc_48, kc_56, kc_57, kc_59, kc_60, kc_61, kc_64, kc_73, kc_78, kc_91, kc_95, kc_96, kc_97, kc_98, kc_99, kc_100, kc_112, kc_122, kc_125, kc_126, kc_150, kc_162, kc_163, kc_168, kc_186, kc_190, kc_200, kc_250, kc_255, kc_355, kc_356, kc_404, kc_405, kc_429, kc_573, kc_999, kc_1000, kc_1002, kc_1100, kc_1891, kc_2200, kc_4719, kc_4869, kc_4881, kc_5148, kc_9999, kn_9999, kc_10000, kc_12345, kc_19741, kc_25433, kc_65536, kc_320403, kc_628412, kc_629093, kc_660401, kc_679843, kc_918640, kc_979410, kc_1178088, kc_6232410, kc_24644941, kc_36238189, kc_38270444, kc_392531318, kc_425693491, kc_1103515245, kc_1342154595, kc_2147483648, kc_42328242873, kc_891704255789, kc_1722105685577, kc_1858726030364, ct_0, ct_1, ct_2, ct_3, ct_4, ct_5, cf_0, cf_1, cf_2, cf_3, cf_4, cf_5, w_ty6, w_ty7, m_sv, m_z0, m_hd, m_g0, m_gs, m_s0, m_ss, m_ap, m_an, forall_const, true_and, and_true, ne_eq, not_true_eq_false, not_false_eq_true, false_implies, true_implies, implies_true, eq_self, reduceCtorEq, Nat.reduceDiv, Nat.reduceMod, Int.reduceToNat, or_true, true_or, or_false, false_or, or_self, m_it, m_if, m_c1, m_01, m_02, m_03, m_04, m_10, m_12, m_13, m_14, m_20, m_21, m_23, m_24, m_30, m_31, m_32, m_34, m_40, m_41, m_42, m_43]
  simp (disch := omega) only [jadd]
  refine w_lp (fun en h' => ∃ p : Int, en = [182, b, m, f, p] ∧ f < p ∧ p ≤ 13 ∧ QK P (r_T 0) J h' ∧ KR (r_T 0) h h') (fun en _ => (13 - en.getD 4 0).toNat) ⟨f + 1, rfl, by omega, by omega, hQ, KR.rf⟩ ?_
  rintro en h1 ⟨p, rfl, p0, p1_w, q1_w, q2_w⟩
  refine ⟨?_, ?_⟩
  · show (13 - p).toNat < K
    omega
  simp only [wf_4, wf_40, wf_5, wf_50, wf_6, wl_1, wt_1, wu_1, wa_1, wl_4, wt_4, wu_4, wa_4, wl_5, wt_5, wu_5, wa_5, wl_6, wt_6, wu_6, wa_6, wl_9, wt_9, wu_9, wa_9, wl_10, wt_10, wu_10, wa_10, wl_11, wt_11, wu_11, wa_11, wl_13, wt_13, wu_13, wa_13, wl_14, wt_14, wu_14, wa_14, wl_15, wt_15, wu_15, wa_15, wl_16, wt_16, wu_16, wa_16, wl_17, wt_17, wu_17, wa_17, wl_20, wt_20, wu_20, wa_20, wl_21, wt_21, wu_21, wa_21, wl_22, wt_22, wu_22, wa_22, wl_23, wt_23, wu_23, wa_23, wl_24, wt_24, wu_24, wa_24, wl_26, wt_26, wu_26, wa_26, wl_27, wt_27, wu_27, wa_27, wl_28, wt_28, wu_28, wa_28, we_1, we_3, we_10, we_14, we_15, we_16, we_17, we_18, we_20, we_21, we_22, we_24, we_25, we_26, we_27, we_28, we_30, we_31, we_32, wc_20, wc_21, wc_22, wc_24, wc_25, wc_26, wc_27, wc_3, wc_4, wc_7, wc_28, wc_32, ws_1, ws_2, ws_3, ws_4, ws_9, ws_10, ws_11, ws_14, ws_15, ws_16, ws_27, ws_17, ws_20, ws_28, kc_0, kc_1, kn_1, kc_2, kn_2, kc_3, kc_4, kc_5, kc_6, kc_7, kc_8, kc_9, kc_10, kc_12, kc_13, kc_14, kc_16, kc_17, kc_18, kc_19, kc_20, kc_21, kc_22, kc_24, kc_28, kc_30, kc_32, kc_37, kc_40, kc_41, kc_42, kc_43, kc_45, kc_48, kc_56, kc_57, kc_59, kc_60, kc_61, kc_64, kc_73, kc_78, kc_91, kc_95, kc_96, kc_97, kc_98, kc_99, kc_100, kc_112, kc_122, kc_125, kc_126, kc_150, kc_162, kc_163, kc_168, kc_186, kc_190, kc_200, kc_250, kc_255, kc_355, kc_356, kc_404, kc_405, kc_429, kc_573, kc_999, kc_1000, kc_1002, kc_1100, kc_1891, kc_2200, kc_4719, kc_4869, kc_4881, kc_5148, kc_9999, kn_9999, kc_10000, kc_12345, kc_19741, kc_25433, kc_65536, kc_320403, kc_628412, kc_629093, kc_660401, kc_679843, kc_918640, kc_979410, kc_1178088, kc_6232410, kc_24644941, kc_36238189, kc_38270444, kc_392531318, kc_425693491, kc_1103515245, kc_1342154595, kc_2147483648, kc_42328242873, kc_891704255789, kc_1722105685577, kc_1858726030364, ct_0, ct_1, ct_2, ct_3, ct_4, ct_5, cf_0, cf_1, cf_2, cf_3, cf_4, cf_5, w_ty6, w_ty7, m_sv, m_z0, m_hd, m_g0, m_gs, m_s0, m_ss, m_ap, m_an, forall_const, true_and, and_true, ne_eq, not_true_eq_false, not_false_eq_true, false_implies, true_implies, implies_true, eq_self, reduceCtorEq, Nat.reduceDiv, Nat.reduceMod, Int.reduceToNat, or_true, true_or, or_false, false_or, or_self, m_it, m_if, m_c1, m_01, m_02, m_03, m_04, m_10, m_12, m_13, m_14, m_20, m_21, m_23, m_24, m_30, m_31, m_32, m_34, m_40, m_41, m_42, m_43]
  obtain ⟨w, h3, f1_w, f2_w, f3_w, f4_w, f5_w, -⟩ := use1 c225 rp_225 rr_225 q1_w il_this
  refine ⟨[w], h3, f1_w, fun hp => ?_, fun hp => ⟨f2_w, q2_w.tr f3_w, -1, rfl, Or.inl rfl⟩⟩
  simp only [m_hd] at hp
  obtain ⟨v, h2, e1_w, e2_w, e3_w, e4_w⟩ := use1 c243 rp_243 rr_243 f2_w (il_bmp hb_w hm_w (by omega) (show p ≤ 12 by omega))
  refine ⟨[v], h2, e1_w, fun hv => ⟨e2_w, (q2_w.tr f3_w).tr e3_w, p, rfl, Or.inr ⟨p0, by omega⟩⟩, fun hv => ?_⟩
  rw [jinc (by omega) (by omega)]
  refine ⟨⟨p + 1, rfl, by omega, by omega, e2_w, (q2_w.tr f3_w).tr e3_w⟩, ?_⟩
  show (13 - (p + 1)).toNat < (13 - p).toNat
  omega
theorem s_247 (hK_w : 4294967300 ≤ K) (c232 : S232 P J g (evF xs L ck K cW g_M n)) : S247 P J g (evF xs L ck K cW g_M (n + 1)) := fun h c f t e hQ hc_w f0_w f1_w t0_w t1_w e0 e1_w => by
  suffices hs : ∃ r h', evF xs L ck K cW g_M (n + 1) 247 [182, c, f, t, e] ((a_g3, g), h) = some (1, r, ((a_g3, g), h')) ∧ QK P (r_T 0) J h' ∧ KR (r_T 0) h h' ∧ ∃ v, r = [v] ∧ InI v ∧ (f < e → e ≤ t → 1 ≤ v) by
    obtain ⟨r, h', e1_w, e2_w, e3_w, v, rfl, e4_w⟩ := hs
    exact ⟨v, h', e1_w, e2_w, e3_w, e4_w⟩
  refine tr_of gm_247 (B := fun r h' => QK P (r_T 0) J h' ∧ KR (r_T 0) h h' ∧ ∃ v, r = [v] ∧ InI v ∧ (f < e → e ≤ t → 1 ≤ v)) ?_
  show wS _ _ K bb_247 [182, c, f, t, e, 0, 0, 0] h _
  generalize evF xs L ck K cW g_M n = F at c232 ⊢
  unfold bb_247
  simp only [wf_4, wf_40, wf_5, wf_50, wf_6, wl_1, wt_1, wu_1, wa_1, wl_4, wt_4, wu_4, wa_4, wl_5, wt_5, wu_5, wa_5, wl_6, wt_6, wu_6, wa_6, wl_9, wt_9, wu_9, wa_9, wl_10, wt_10, wu_10, wa_10, wl_11, wt_11, wu_11, wa_11, wl_13, wt_13, wu_13, wa_13, wl_14, wt_14, wu_14, wa_14, wl_15, wt_15, wu_15, wa_15, wl_16, wt_16, wu_16, wa_16, wl_17, wt_17, wu_17, wa_17, wl_20, wt_20, wu_20, wa_20, wl_21, wt_21, wu_21, wa_21, wl_22, wt_22, wu_22, wa_22, wl_23, wt_23, wu_23, wa_23, wl_24, wt_24, wu_24, wa_24, wl_26, wt_26, wu_26, wa_26, wl_27, wt_27, wu_27, wa_27, wl_28, wt_28, wu_28, wa_28, we_1, we_3, we_10, we_14, we_15, we_16, we_17, we_18, we_20, we_21, we_22, we_24, we_25, we_26, we_27, we_28, we_30, we_31, we_32, wc_20, wc_21, wc_22, wc_24, wc_25, wc_26, wc_27, wc_3, wc_4, wc_7, wc_28, wc_32, ws_1, ws_2, ws_3, ws_4, ws_9, ws_10, ws_11, ws_14, ws_15, ws_16, ws_27, ws_17, ws_20, ws_28, kc_0, kc_1, kn_1, kc_2, kn_2, kc_3, kc_4, kc_5, kc_6, kc_7, kc_8, kc_9, kc_10, kc_12, kc_13, kc_14, kc_16, kc_17, kc_18, kc_19, kc_20, kc_21, kc_22, kc_24, kc_28, kc_30, kc_32, kc_37, kc_40, kc_41, kc_42, kc_43, kc_45, kc_48, kc_56, kc_57, kc_59, kc_60, kc_61, kc_64, kc_73, kc_78, kc_91, kc_95, kc_96, kc_97, kc_98, kc_99, kc_100, kc_112, kc_122, kc_125, kc_126, kc_150, kc_162, kc_163, kc_168, kc_186, kc_190, kc_200, kc_250, kc_255, kc_355, kc_356, kc_404, kc_405, kc_429, kc_573, kc_999, kc_1000, kc_1002, kc_1100, kc_1891, kc_2200, kc_4719, kc_4869, kc_4881, kc_5148, kc_9999, kn_9999, kc_10000, kc_12345, kc_19741, kc_25433, kc_65536, kc_320403, kc_628412, kc_629093, kc_660401, kc_679843, kc_918640, kc_979410, kc_1178088, kc_6232410, kc_24644941, kc_36238189, kc_38270444, kc_392531318, kc_425693491, kc_1103515245, kc_1342154595, kc_2147483648, kc_42328242873, kc_891704255789, kc_1722105685577, kc_1858726030364, ct_0, ct_1, ct_2, ct_3, ct_4, ct_5, cf_0, cf_1, cf_2, cf_3, cf_4, cf_5, w_ty6, w_ty7, m_sv, m_z0, m_hd, m_g0, m_gs, m_s0, m_ss, m_ap, m_an, forall_const, true_and, and_true, ne_eq, not_true_eq_false, not_false_eq_true, false_implies, true_implies, implies_true, eq_self, reduceCtorEq, Nat.reduceDiv, Nat.reduceMod, Int.reduceToNat, or_true, true_or, or_false, false_or, or_self, m_it, m_if, m_c1, m_01, m_02, m_03, m_04, m_10, m_12, m_13, m_14, m_20, m_21, m_23, m_24, m_30, m_31, m_32, m_34, m_40, m_41, m_42, m_43]
  refine w_lp (fun en h' => ∃ A S s : Int, en = [182, c, f, t, e, A, S, s] ∧ f ≤ s ∧ (s = f ∨ s ≤ e) ∧ 0 ≤ S ∧ S ≤ A ∧ A ≤ 99 * (s - f) ∧ (e ≤ t → S = A) ∧ h' = h) (fun en _ => (13 - en.getD 7 0).toNat) ⟨0, 0, f, rfl, by omega, Or.inl rfl, by omega, by omega, by omega, fun _ => rfl, rfl⟩ ?_
  rintro en h1 ⟨A, S, s, rfl, p0, p1_w, q1_w, q2_w, q3_w, q4_w, rfl⟩
  refine ⟨?_, ?_⟩
  · show (13 - s).toNat < K
    omega
  simp only [wf_4, wf_40, wf_5, wf_50, wf_6, wl_1, wt_1, wu_1, wa_1, wl_4, wt_4, wu_4, wa_4, wl_5, wt_5, wu_5, wa_5, wl_6, wt_6, wu_6, wa_6, wl_9, wt_9, wu_9, wa_9, wl_10, wt_10, wu_10, wa_10, wl_11, wt_11, wu_11, wa_11, wl_13, wt_13, wu_13, wa_13, wl_14, wt_14, wu_14, wa_14, wl_15, wt_15, wu_15, wa_15, wl_16, wt_16, wu_16, wa_16, wl_17, wt_17, wu_17, wa_17, wl_20, wt_20, wu_20, wa_20, wl_21, wt_21, wu_21, wa_21, wl_22, wt_22, wu_22, wa_22, wl_23, wt_23, wu_23, wa_23, wl_24, wt_24, wu_24, wa_24, wl_26, wt_26, wu_26, wa_26, wl_27, wt_27, wu_27, wa_27, wl_28, wt_28, wu_28, wa_28, we_1, we_3, we_10, we_14, we_15, we_16, we_17, we_18, we_20, we_21, we_22, we_24, we_25, we_26, we_27, we_28, we_30, we_31, we_32, wc_20, wc_21, wc_22, wc_24, wc_25, wc_26, wc_27, wc_3, wc_4, wc_7, wc_28, wc_32, ws_1, ws_2, ws_3, ws_4, ws_9, ws_10, ws_11, ws_14, ws_15, ws_16, ws_27, ws_17, ws_20, ws_28, kc_0, kc_1, kn_1, kc_2, kn_2, kc_3, kc_4, kc_5, kc_6, kc_7, kc_8, kc_9, kc_10, kc_12, kc_13, kc_14, kc_16, kc_17, kc_18, kc_19, kc_20, kc_21, kc_22, kc_24, kc_28, kc_30, kc_32, kc_37, kc_40, kc_41, kc_42, kc_43, kc_45, kc_48, kc_56, kc_57, kc_59, kc_60, kc_61, kc_64, kc_73, kc_78, kc_91, kc_95, kc_96, kc_97, kc_98, kc_99, kc_100, kc_112, kc_122, kc_125, kc_126, kc_150, kc_162, kc_163, kc_168, kc_186, kc_190, kc_200, kc_250, kc_255, kc_355, kc_356, kc_404, kc_405, kc_429, kc_573, kc_999, kc_1000, kc_1002, kc_1100, kc_1891, kc_2200, kc_4719, kc_4869, kc_4881, kc_5148, kc_9999, kn_9999, kc_10000, kc_12345, kc_19741, kc_25433, kc_65536, kc_320403, kc_628412, kc_629093, kc_660401, kc_679843, kc_918640, kc_979410, kc_1178088, kc_6232410, kc_24644941, kc_36238189, kc_38270444, kc_392531318, kc_425693491, kc_1103515245, kc_1342154595, kc_2147483648, kc_42328242873, kc_891704255789, kc_1722105685577, kc_1858726030364, ct_0, ct_1, ct_2, ct_3, ct_4, ct_5, cf_0, cf_1, cf_2, cf_3, cf_4, cf_5, w_ty6, w_ty7, m_sv, m_z0, m_hd, m_g0, m_gs, m_s0, m_ss, m_ap, m_an, forall_const, true_and, and_true, ne_eq, not_true_eq_false, not_false_eq_true, false_implies, true_implies, implies_true, eq_self, reduceCtorEq, Nat.reduceDiv, Nat.reduceMod, Int.reduceToNat, or_true, true_or, or_false, false_or, or_self, m_it, m_if, m_c1, m_01, m_02, m_03, m_04, m_10, m_12, m_13, m_14, m_20, m_21, m_23, m_24, m_30, m_31, m_32, m_34, m_40, m_41, m_42, m_43]
  refine ⟨fun hp => ?_, fun hp => ?_⟩
  · obtain ⟨v, r1_w, r2, r3, -⟩ := c232 h1 c s hQ hc_w (by omega) (by omega)
    refine ⟨[v], h1, r1_w, fun hst => ⟨[v], h1, r1_w, ?_⟩, fun hst => ?_⟩
    · simp only [m_hd]
      simp (disch := omega) only [jadd, jinc]
      refine ⟨⟨A + v, S + v, s + 1, rfl, by omega, by omega, by omega, by omega, by omega, fun k => by have := q4_w k; omega, trivial⟩, ?_⟩
      show (13 - (s + 1)).toNat < (13 - s).toNat
      omega
    · simp only [m_hd]
      simp (disch := omega) only [jadd, jinc]
      refine ⟨⟨A + v, S + 0, s + 1, rfl, by omega, by omega, by omega, by omega, by omega, fun k => by omega, trivial⟩, ?_⟩
      show (13 - (s + 1)).toNat < (13 - s).toNat
      omega
  · refine ⟨fun hA => ⟨hQ, KR.rf, _, rfl, in_j32 _, fun k1_w k2 => ?_⟩, fun hA => ⟨hQ, KR.rf, S, rfl, ⟨by omega, by omega⟩, fun k1_w k2 => ?_⟩⟩
    · rw [jsub (by omega) (by omega)]
      omega
    · have := q4_w k2
      omega
theorem s_248 (c243 : TotR P (r_T 0) J g (evF xs L ck K cW g_M n) 243) (c230 : TotR P (r_T 0) J g (evF xs L ck K cW g_M n) 230) (c246 : TotR P (r_T 0) J g (evF xs L ck K cW g_M n) 246) (c247 : S247 P J g (evF xs L ck K cW g_M n)) : S248 P J g (evF xs L ck K cW g_M (n + 1)) := fun h b m f t e hQ hb_w hm_w f0_w f1_w e1_w t0_w t1_w => by
  suffices hs : ∃ r h', evF xs L ck K cW g_M (n + 1) 248 [182, b, m, f, t, e] ((a_g3, g), h) = some (1, r, ((a_g3, g), h')) ∧ QK P (r_T 0) J h' ∧ KR (r_T 0) h h' ∧ ∃ v, r = [v] ∧ InI v by
    obtain ⟨r, h', e1_w, e2_w, e3_w, v, rfl, e4_w⟩ := hs
    exact ⟨v, h', e1_w, e2_w, e3_w, e4_w⟩
  refine tr_of gm_248 (B := fun r h' => QK P (r_T 0) J h' ∧ KR (r_T 0) h h' ∧ ∃ v, r = [v] ∧ InI v) ?_
  show wS _ _ K bb_248 [182, b, m, f, t, e, 0, 0] h _
  generalize evF xs L ck K cW g_M n = F at c243 c230 c246 c247 ⊢
  unfold bb_248
  simp only [wf_4, wf_40, wf_5, wf_50, wf_6, wl_1, wt_1, wu_1, wa_1, wl_4, wt_4, wu_4, wa_4, wl_5, wt_5, wu_5, wa_5, wl_6, wt_6, wu_6, wa_6, wl_9, wt_9, wu_9, wa_9, wl_10, wt_10, wu_10, wa_10, wl_11, wt_11, wu_11, wa_11, wl_13, wt_13, wu_13, wa_13, wl_14, wt_14, wu_14, wa_14, wl_15, wt_15, wu_15, wa_15, wl_16, wt_16, wu_16, wa_16, wl_17, wt_17, wu_17, wa_17, wl_20, wt_20, wu_20, wa_20, wl_21, wt_21, wu_21, wa_21, wl_22, wt_22, wu_22, wa_22, wl_23, wt_23, wu_23, wa_23, wl_24, wt_24, wu_24, wa_24, wl_26, wt_26, wu_26, wa_26, wl_27, wt_27, wu_27, wa_27, wl_28, wt_28, wu_28, wa_28, we_1, we_3, we_10, we_14, we_15, we_16, we_17, we_18, we_20, we_21, we_22, we_24, we_25, we_26, we_27, we_28, we_30, we_31, we_32, wc_20, wc_21, wc_22, wc_24, wc_25, wc_26, wc_27, wc_3, wc_4, wc_7, wc_28, wc_32, ws_1, ws_2, ws_3, ws_4, ws_9, ws_10, ws_11, ws_14, ws_15, ws_16, ws_27, ws_17, ws_20, ws_28, kc_0, kc_1, kn_1, kc_2, kn_2, kc_3, kc_4, kc_5, kc_6, kc_7, kc_8, kc_9, kc_10, kc_12, kc_13, kc_14, kc_16, kc_17, kc_18, kc_19, kc_20, kc_21, kc_22, kc_24, kc_28, kc_30, kc_32, kc_37, kc_40, kc_41, kc_42, kc_43, kc_45, kc_48, kc_56, kc_57, kc_59, kc_60, kc_61, kc_64, kc_73, kc_78, kc_91, kc_95, kc_96, kc_97, kc_98, kc_99, kc_100, kc_112, kc_122, kc_125, kc_126, kc_150, kc_162, kc_163, kc_168, kc_186, kc_190, kc_200, kc_250, kc_255, kc_355, kc_356, kc_404, kc_405, kc_429, kc_573, kc_999, kc_1000, kc_1002, kc_1100, kc_1891, kc_2200, kc_4719, kc_4869, kc_4881, kc_5148, kc_9999, kn_9999, kc_10000, kc_12345, kc_19741, kc_25433, kc_65536, kc_320403, kc_628412, kc_629093, kc_660401, kc_679843, kc_918640, kc_979410, kc_1178088, kc_6232410, kc_24644941, kc_36238189, kc_38270444, kc_392531318, kc_425693491, kc_1103515245, kc_1342154595, kc_2147483648, kc_42328242873, kc_891704255789, kc_1722105685577, kc_1858726030364, ct_0, ct_1, ct_2, ct_3, ct_4, ct_5, cf_0, cf_1, cf_2, cf_3, cf_4, cf_5, w_ty6, w_ty7, m_sv, m_z0, m_hd, m_g0, m_gs, m_s0, m_ss, m_ap, m_an, forall_const, true_and, and_true, ne_eq, not_true_eq_false, not_false_eq_true, false_implies, true_implies, implies_true, eq_self, reduceCtorEq, Nat.reduceDiv, Nat.reduceMod, Int.reduceToNat, or_true, true_or, or_false, false_or, or_self, m_it, m_if, m_c1, m_01, m_02, m_03, m_04, m_10, m_12, m_13, m_14, m_20, m_21, m_23, m_24, m_30, m_31, m_32, m_34, m_40, m_41, m_42, m_43]
  obtain ⟨v1_w, h1, a1_w, a2, a3, a4⟩ := use1 c243 rp_243 rr_243 hQ (il_bmp hb_w hm_w (show 0 ≤ e by omega) e1_w)
  obtain ⟨v2, h2, b1, b2, b3, b4⟩ := use1 c243 rp_243 rr_243 a2 (il_bmp hb_w hm_w f0_w (show f ≤ 12 by omega))
  obtain ⟨v3, h3, d1_w, d2_w, d3_w, d4_w⟩ := use1 (av := [182, m]) c230 rp_230 rr_230 b2 ⟨rfl, hm_w, trivial⟩
  obtain ⟨v4_w, h4, x1_w, x2_w, x3, x4_w, -⟩ := c247 h3 v3 f t e d2_w d4_w f0_w (by omega) t0_w t1_w (by omega) e1_w
  obtain ⟨v5, h5, y1, y2, y3, y4, y5⟩ := c247 h4 v3 f e e x2_w d4_w f0_w (by omega) (by omega) (by omega) (by omega) e1_w
  have y6 := y5 f1_w (Int.le_refl _)
  have fin_w : ∀ w : Int, InI w → ∃ v6 h6, F 246 [w, v4_w, v5] ((a_g3, g), h5) = some (1, [v6], ((a_g3, g), h6)) ∧ QK P (r_T 0) J h6 ∧ KR (r_T 0) h5 h6 ∧ IV P iT v6 := fun w hw => use1 c246 rp_246 rr_246 y2 ⟨IV.top hw, IV.top x4_w, ⟨y6, by have := y4.2; omega, y4⟩, trivial⟩
  have kr := ((((a3.tr b3).tr d3_w).tr x3).tr y3)
  refine ⟨[v1_w], h1, a1_w, [v2], h2, b1, fun k => ?_, fun k => ?_⟩
  · obtain ⟨v6, h6, z1, z2, z3, z4⟩ := fin_w _ (iop_in 0 (j_iop 1 v1_w v2) 10000)
    exact ⟨[v3], h3, d1_w, [v4_w], h4, x1_w, [v5], h5, y1, [v6], h6, z1, z2, kr.tr z3, v6, rfl, z4.2.2⟩
  · obtain ⟨v6, h6, z1, z2, z3, z4⟩ := fin_w _ (iop_in 0 (j_iop 1 v1_w v2) 0)
    exact ⟨[v3], h3, d1_w, [v4_w], h4, x1_w, [v5], h5, y1, [v6], h6, z1, z2, kr.tr z3, v6, rfl, z4.2.2⟩
end HA3
end
section
/-! ===== the reference's methods by hand_w: use, stands, weights ===== -/
def S222 (P : Int × Int) (g : Nat × Nat) (F : XP) : Prop := ∀ (h : XH), QK P (r_T 0) (RJ P) h → 0 ≤ h 188 4 → ∃ v h', F 222 [182, h 188 4] ((a_g3, g), h) = some (1, [v], ((a_g3, g), h')) ∧ QK P (r_T 0) (RJ P) h' ∧ KR (r_T 0) h h' ∧ InI v
section HA4
variable {P : Int × Int} {g : Nat × Nat} {xs : Nat → Int} {L K n : Nat} {ck : Nat → List Nat} {cW : Nat → Nat → Int} {h : XH} {J : XH → Prop}
theorem iv_b0 : IV P (3, 0, 0) 0 := ⟨⟨by decide, by decide⟩, 0, by decide, by decide, by decide⟩
theorem t_249 (c244 : S244 P J g (evF xs L ck K cW g_M n)) (c245 : S245 P J g (evF xs L ck K cW g_M n)) (c248 : S248 P J g (evF xs L ck K cW g_M n)) (c229 : TotR P (r_T 0) J g (evF xs L ck K cW g_M n) 229) (c243 : TotR P (r_T 0) J g (evF xs L ck K cW g_M n) 243) : TotR P (r_T 0) J g (evF xs L ck K cW g_M (n + 1)) 249 := by
  refine tot_hand gm_249 rp_249 rr_249 ru_249 fun av h hQ hv => ?_
  obtain ⟨x, b, m, s, rfl, hx, hb_w, hm_w, hs⟩ := il4 hv
  obtain rfl : x = 182 := hx
  obtain ⟨s0, s1_w, -⟩ := hs
  show wS _ _ K bb_249 [182, b, m, s, 0, 0] h _
  generalize evF xs L ck K cW g_M n = F at c244 c245 c248 c229 c243 ⊢
  unfold bb_249
  simp only [wf_4, wf_40, wf_5, wf_50, wf_6, wl_1, wt_1, wu_1, wa_1, wl_4, wt_4, wu_4, wa_4, wl_5, wt_5, wu_5, wa_5, wl_6, wt_6, wu_6, wa_6, wl_9, wt_9, wu_9, wa_9, wl_10, wt_10, wu_10, wa_10, wl_11, wt_11, wu_11, wa_11, wl_13, wt_13, wu_13, wa_13, wl_14, wt_14, wu_14, wa_14, wl_15, wt_15, wu_15, wa_15, wl_16, wt_16, wu_16, wa_16, wl_17, wt_17, wu_17, wa_17, wl_20, wt_20, wu_20, wa_20, wl_21, wt_21, wu_21, wa_21, wl_22, wt_22, wu_22, wa_22, wl_23, wt_23, wu_23, wa_23, wl_24, wt_24, wu_24, wa_24, wl_26, wt_26, wu_26, wa_26, wl_27, wt_27, wu_27, wa_27, wl_28, wt_28, wu_28, wa_28, we_1, we_3, we_10, we_14, we_15, we_16, we_17, we_18, we_20, we_21, we_22, we_24, we_25, we_26, we_27, we_28, we_30, we_31, we_32, wc_20, wc_21, wc_22, wc_24, wc_25, wc_26, wc_27, wc_3, wc_4, wc_7, wc_28, wc_32, ws_1, ws_2, ws_3, ws_4, ws_9, ws_10, ws_11, ws_14, ws_15, ws_16, ws_27, ws_17, ws_20, ws_28, kc_0, kc_1, kn_1, kc_2, kn_2, kc_3, kc_4, kc_5, kc_6, kc_7, kc_8, kc_9, kc_10, kc_12, kc_13, kc_14, kc_16, kc_17, kc_18, kc_19, kc_20, kc_21, kc_22, kc_24, kc_28, kc_30, kc_32, kc_37, kc_40, kc_41, kc_42, kc_43, kc_45, kc_48, kc_56, kc_57, kc_59, kc_60, kc_61, kc_64, kc_73, kc_78, kc_91, kc_95, kc_96, kc_97, kc_98, kc_99, kc_100, kc_112, kc_122, kc_125, kc_126, kc_150, kc_162, kc_163, kc_168, kc_186, kc_190, kc_200, kc_250, kc_255, kc_355, kc_356, kc_404, kc_405, kc_429, kc_573, kc_999, kc_1000, kc_1002, kc_1100, kc_1891, kc_2200, kc_4719, kc_4869, kc_4881, kc_5148, kc_9999, kn_9999, kc_10000, kc_12345, kc_19741, kc_25433, kc_65536, kc_320403, kc_628412, kc_629093, kc_660401, kc_679843, kc_918640, kc_979410, kc_1178088, kc_6232410, kc_24644941, kc_36238189, kc_38270444, kc_392531318, kc_425693491, kc_1103515245, kc_1342154595, kc_2147483648, kc_42328242873, kc_891704255789, kc_1722105685577, kc_1858726030364, ct_0, ct_1, ct_2, ct_3, ct_4, ct_5, cf_0, cf_1, cf_2, cf_3, cf_4, cf_5, w_ty6, w_ty7, m_sv, m_z0, m_hd, m_g0, m_gs, m_s0, m_ss, m_ap, m_an, forall_const, true_and, and_true, ne_eq, not_true_eq_false, not_false_eq_true, false_implies, true_implies, implies_true, eq_self, reduceCtorEq, Nat.reduceDiv, Nat.reduceMod, Int.reduceToNat, or_true, true_or, or_false, false_or, or_self, m_it, m_if, m_c1, m_01, m_02, m_03, m_04, m_10, m_12, m_13, m_14, m_20, m_21, m_23, m_24, m_30, m_31, m_32, m_34, m_40, m_41, m_42, m_43]
  obtain ⟨v1_w, h1, a1_w, a2, a3, a4, a5⟩ := c244 h b m s hQ hb_w hm_w (by omega) (by omega)
  obtain ⟨v2, h2, b1, b2, b3, -⟩ := use1 (av := [182, m]) c229 rp_229 rr_229 a2 ⟨rfl, hm_w, trivial⟩
  refine ⟨[v1_w], h1, a1_w, [v2], h2, b1, fun k1_w => ⟨fun k2 => ?_, fun k2 => ?_⟩, fun k1_w => ?_⟩
  · obtain ⟨v3, h3, d1_w, d2_w, d3_w, -⟩ := use1 (av := [182, m]) c229 rp_229 rr_229 b2 ⟨rfl, hm_w, trivial⟩
    exact ⟨[v3], h3, d1_w, fun _ => ⟨d2_w, (a3.tr b3).tr d3_w, IV.top (in_j32 _), trivial⟩, fun _ => ⟨d2_w, (a3.tr b3).tr d3_w, IV.top in_0, trivial⟩⟩
  · simp only [m_hd] at k2
    obtain ⟨v3, h3, d1_w, d2_w, d3_w, d4_w⟩ := use1 c243 rp_243 rr_243 b2 (il_bmp hb_w hm_w k2 (show v1_w ≤ 12 by omega))
    obtain ⟨v4_w, h4, x1_w, x2_w, x3, -⟩ := use1 (av := [182, m]) c229 rp_229 rr_229 d2_w ⟨rfl, hm_w, trivial⟩
    exact ⟨[v3], h3, d1_w, [v4_w], h4, x1_w, fun _ => ⟨x2_w, ((a3.tr b3).tr d3_w).tr x3, IV.top (in_j32 _), trivial⟩, fun _ => ⟨x2_w, ((a3.tr b3).tr d3_w).tr x3, IV.top d4_w.2.2, trivial⟩⟩
  · obtain ⟨v3, h3, d1_w, d2_w, d3_w, d4_w⟩ := c245 h2 b m s b2 hb_w hm_w s0 (by omega)
    refine ⟨[v3], h3, d1_w, fun k2 => ⟨d2_w, (a3.tr b3).tr d3_w, IV.top in_0, trivial⟩, fun k2 => ⟨fun k3 => ⟨d2_w, (a3.tr b3).tr d3_w, IV.top in_0, trivial⟩, fun k3 => ?_⟩⟩
    simp only [m_hd] at k2 k3 ⊢
    rw [jadd (by omega) (by omega)]
    obtain ⟨v4_w, h4, x1_w, x2_w, x3, -⟩ := c248 h3 b m v1_w (s + 1) v3 d2_w hb_w hm_w k2 (by omega) (by omega) (by omega) (by omega)
    obtain ⟨v5, h5, y1, y2, y3, -⟩ := c248 h4 b m v1_w s v3 x2_w hb_w hm_w k2 (by omega) (by omega) (by omega) (by omega)
    exact ⟨[v4_w], h4, x1_w, [v5], h5, y1, y2, (((a3.tr b3).tr d3_w).tr x3).tr y3, IV.top (iop_in _ _ _), trivial⟩
theorem t_284 (hJ : JS (r_T 0) J) (c239 : TotR P (r_T 0) J g (evF xs L ck K cW g_M n) 239) (c244 : S244 P J g (evF xs L ck K cW g_M n)) (c245 : S245 P J g (evF xs L ck K cW g_M n)) (c248 : S248 P J g (evF xs L ck K cW g_M n)) (c229 : TotR P (r_T 0) J g (evF xs L ck K cW g_M n) 229) (c243 : TotR P (r_T 0) J g (evF xs L ck K cW g_M n) 243) : TotR P (r_T 0) J g (evF xs L ck K cW g_M (n + 1)) 284 := by
  refine tot_hand gm_284 rp_284 rr_284 ru_284 fun av h hQ hv => ?_
  obtain ⟨x, m, p, rfl, hx, hm0, hp0⟩ := il3 hv
  obtain rfl : x = 182 := hx
  show wS _ _ K bb_284 [182, m, p, 0, 0] h _
  generalize evF xs L ck K cW g_M n = F at c239 c244 c245 c248 c229 c243 ⊢
  unfold bb_284
  simp only [wf_4, wf_40, wf_5, wf_50, wf_6, wl_1, wt_1, wu_1, wa_1, wl_4, wt_4, wu_4, wa_4, wl_5, wt_5, wu_5, wa_5, wl_6, wt_6, wu_6, wa_6, wl_9, wt_9, wu_9, wa_9, wl_10, wt_10, wu_10, wa_10, wl_11, wt_11, wu_11, wa_11, wl_13, wt_13, wu_13, wa_13, wl_14, wt_14, wu_14, wa_14, wl_15, wt_15, wu_15, wa_15, wl_16, wt_16, wu_16, wa_16, wl_17, wt_17, wu_17, wa_17, wl_20, wt_20, wu_20, wa_20, wl_21, wt_21, wu_21, wa_21, wl_22, wt_22, wu_22, wa_22, wl_23, wt_23, wu_23, wa_23, wl_24, wt_24, wu_24, wa_24, wl_26, wt_26, wu_26, wa_26, wl_27, wt_27, wu_27, wa_27, wl_28, wt_28, wu_28, wa_28, we_1, we_3, we_10, we_14, we_15, we_16, we_17, we_18, we_20, we_21, we_22, we_24, we_25, we_26, we_27, we_28, we_30, we_31, we_32, wc_20, wc_21, wc_22, wc_24, wc_25, wc_26, wc_27, wc_3, wc_4, wc_7, wc_28, wc_32, ws_1, ws_2, ws_3, ws_4, ws_9, ws_10, ws_11, ws_14, ws_15, ws_16, ws_27, ws_17, ws_20, ws_28, kc_0, kc_1, kn_1, kc_2, kn_2, kc_3, kc_4, kc_5, kc_6, kc_7, kc_8, kc_9, kc_10, kc_12, kc_13, kc_14, kc_16, kc_17, kc_18, kc_19, kc_20, kc_21, kc_22, kc_24, kc_28, kc_30, kc_32, kc_37, kc_40, kc_41, kc_42, kc_43, kc_45, kc_48, kc_56, kc_57, kc_59, kc_60, kc_61, kc_64, kc_73, kc_78, kc_91, kc_95, kc_96, kc_97, kc_98, kc_99, kc_100, kc_112, kc_122, kc_125, kc_126, kc_150, kc_162, kc_163, kc_168, kc_186, kc_190, kc_200, kc_250, kc_255, kc_355, kc_356, kc_404, kc_405, kc_429, kc_573, kc_999, kc_1000, kc_1002, kc_1100, kc_1891, kc_2200, kc_4719, kc_4869, kc_4881, kc_5148, kc_9999, kn_9999, kc_10000, kc_12345, kc_19741, kc_25433, kc_65536, kc_320403, kc_628412, kc_629093, kc_660401, kc_679843, kc_918640, kc_979410, kc_1178088, kc_6232410, kc_24644941, kc_36238189, kc_38270444, kc_392531318, kc_425693491, kc_1103515245, kc_1342154595, kc_2147483648, kc_42328242873, kc_891704255789, kc_1722105685577, kc_1858726030364, ct_0, ct_1, ct_2, ct_3, ct_4, ct_5, cf_0, cf_1, cf_2, cf_3, cf_4, cf_5, w_ty6, w_ty7, m_sv, m_z0, m_hd, m_g0, m_gs, m_s0, m_ss, m_ap, m_an, forall_const, true_and, and_true, ne_eq, not_true_eq_false, not_false_eq_true, false_implies, true_implies, implies_true, eq_self, reduceCtorEq, Nat.reduceDiv, Nat.reduceMod, Int.reduceToNat, or_true, true_or, or_false, false_or, or_self, m_it, m_if, m_c1, m_01, m_02, m_03, m_04, m_10, m_12, m_13, m_14, m_20, m_21, m_23, m_24, m_30, m_31, m_32, m_34, m_40, m_41, m_42, m_43]
  obtain ⟨z1, z2⟩ := fd_QK hQ hJ (k := 0) (v := 0) (Or.inl rfl) ⟨by decide, by decide, in_0⟩
  obtain ⟨r, h1, a1_w, a2, a3, a4, a5⟩ := c239 [182, m, p] _ z1 (by rw [rp_239]; exact ⟨rfl, hm0, hp0, trivial⟩)
  rw [rr_239] at a4
  obtain ⟨v, rfl, -⟩ := IL.one a4
  refine ⟨[v], h1, a1_w, fun k1_w => ?_, fun k1_w => ⟨a2, z2.tr a3, IV.top ⟨by decide, by decide⟩, trivial⟩⟩
  have a6 := a5 k1_w
  rw [ru_239] at a6
  obtain ⟨-, hm_w, hp, -⟩ := a6
  obtain ⟨p0, p1_w, -⟩ := hp
  obtain ⟨v2, h2, b1, b2, b3, -⟩ := use1 (av := [182, m]) c229 rp_229 rr_229 a2 ⟨rfl, hm_w, trivial⟩
  refine ⟨[v2], h2, b1, fun k2 => ⟨b2, (z2.tr a3).tr b3, IV.top ⟨by decide, by decide⟩, trivial⟩, fun k2 => ?_⟩
  obtain ⟨v3, h3, d1_w, d2_w, d3_w, d4_w, d5⟩ := c244 h2 0 m p b2 iv_b0 hm_w (by omega) p1_w
  obtain ⟨v4_w, h4, x1_w, x2_w, x3, x4_w⟩ := c245 h3 0 m p d2_w iv_b0 hm_w p0 p1_w
  have kr := (((z2.tr a3).tr b3).tr d3_w).tr x3
  refine ⟨[v3], h3, d1_w, [v4_w], h4, x1_w, fun k3 => ?_, fun k3 => ⟨fun k4 => ⟨x2_w, kr, IV.top ⟨by decide, by decide⟩, trivial⟩, fun k4 => ⟨fun k5 => ⟨x2_w, kr, IV.top ⟨by decide, by decide⟩, trivial⟩, fun k5 => ?_⟩⟩⟩
  · obtain ⟨v5, h5, y1, y2, y3, y4⟩ := use1 c243 rp_243 rr_243 x2_w (il_bmp iv_b0 hm_w p0 p1_w)
    exact ⟨[v5], h5, y1, y2, kr.tr y3, IV.top y4.2.2, trivial⟩
  · simp only [m_hd] at k3 k4 k5 ⊢
    obtain ⟨v5, h5, y1, y2, y3, y4⟩ := use1 c243 rp_243 rr_243 x2_w (il_bmp iv_b0 hm_w k4 (show v3 ≤ 12 by omega))
    obtain ⟨v6, h6, w1_w, w2_w, w3_w, -⟩ := c248 h5 0 m v3 p v4_w y2 iv_b0 hm_w k4 (by omega) (by omega) p0 (by omega)
    exact ⟨[v5], h5, y1, [v6], h6, w1_w, by decide, w2_w, (kr.tr y3).tr w3_w, IV.top (tmod_i (iop_in _ _ _)), trivial⟩
/-- a cell_w of an array without_w blocks_w, all_w of whose cells_w may_w hold it -/
theorem un_QK (hQ : QK P (r_T 0) J h) (hJ : JS (r_T 0) J) {q i : Nat} {v : Int} {t : IT} (hW : r_W q = true) (hq : 183 ≤ q) (hr : (r_A q).2.2.all (fun r => i_sub t r.2.2) = true) (hv : IV P t v) (hH : HT g_fk a_g3 (j_up h q i v)) : QK P (r_T 0) J (j_up h q i v) ∧ KR (r_T 0) h (j_up h q i v) := by
  have hk : KR (r_T 0) h (j_up h q i v) := KR.up hW
  refine ⟨⟨hH, fun k => ?_, fun q' hq' => ?_, hJ _ _ hk hQ.2.2.2⟩, hk⟩
  · rw [up_ne (fun z => by omega)]
    exact hQ.2.1 k
  · by_cases e : q' = q
    · subst e
      intro r hr' a b k1_w k2 k3
      by_cases e2_w : (qA (r_T 0) q').2.1 * b + a = i
      · rw [e2_w, up_eq]
        exact IV.sub (List.all_eq_true.mp hr r hr') hv
      · rw [up_ne (fun z => e2_w z.2)]
        exact hQ.2.2.1 q' hq' r hr' a b k1_w k2 k3
    · have e2_w : j_up h q i v q' = h q' := funext fun i => up_ne (fun z => e z.1)
      rw [e2_w]
      exact hQ.2.2.1 q' hq'
theorem un_ok : [192, 193, 196, 197, 198, 199, 201].all (fun q => (r_A q).2.2.all (fun r => i_sub iT r.2.2) && r_W q) = true := by decide +kernel
theorem wi_QK (hQ : QK P (r_T 0) J h) (hJ : JS (r_T 0) J) {q i : Nat} {v : Int} (hq : q ∈ [192, 193, 196, 197, 198, 199, 201]) (hv : InI v) : QK P (r_T 0) J (j_up h q i v) ∧ KR (r_T 0) h (j_up h q i v) := by
  have h1 := List.all_eq_true.mp un_ok q hq
  rw [Bool.and_eq_true] at h1
  have h2 : 183 ≤ q ∧ q ∈ [183, 184, 185, 188, 189, 191, 192, 193, 194, 196, 197, 198, 199, 201] := by
    simp only [List.mem_cons, List.not_mem_nil, or_false] at hq ⊢
    omega
  exact un_QK hQ hJ h1.2 h2.1 h1.1 (IV.top hv) (ht_up hQ.1 h2.2 hv)
theorem code_get {f : Nat → Int} {i : Nat} {x : Int} {l : List Int} (hs : Seg f i (x :: l)) : f i = x ∧ Seg f (i + 1) l := by
  refine ⟨hs 0 (by simp), fun k hk => ?_⟩
  have := hs (k + 1) (by simpa using hk)
  rw [show i + 1 + k = i + (k + 1) by omega]
  exact this
theorem htO_cons {t : Nat} {x : Int} {l : List Int} {r : Nat} (h : htO t (x :: l) = some r) : 0 ≤ x ∧ x % 16 ≠ 0 ∧ ((x % 16 = 1 ∧ t < 63 ∧ htO (t + 1) l = some r) ∨ (x % 16 = 2 ∧ x < 64 ∧ t < 63 ∧ htO (t + 1) l = some r) ∨ (x % 16 = 3 ∧ 1 ≤ t ∧ htO t l = some r) ∨ (4 ≤ x % 16 ∧ 2 ≤ t ∧ htO (t - 1) l = some r)) := by
  unfold htO at h
  split at h
  · obtain ⟨h1, h⟩ := j_ifx h
    exact ⟨by omega, by omega, Or.inl ⟨by omega, h1, h⟩⟩
  · split at h
    · obtain ⟨h1, h⟩ := j_ifx h
      exact ⟨by omega, by omega, Or.inr (Or.inl ⟨by omega, by omega, h1, h⟩)⟩
    · split at h
      · obtain ⟨h1, h⟩ := j_ifx h
        exact ⟨by omega, by omega, Or.inr (Or.inr (Or.inl ⟨by omega, h1, h⟩))⟩
      · split at h
        · obtain ⟨h1, h⟩ := j_ifx h
          exact ⟨by omega, by omega, Or.inr (Or.inr (Or.inr ⟨by omega, h1, h⟩))⟩
        · cases h
theorem div16 {x : Int} (h : 0 ≤ x) : j_div 1 x 16 = x % 16 := Int.tmod_eq_emod_of_nonneg h
theorem quo16 {x : Int} (h : 0 ≤ x) (h2 : InI x) : j_div 0 x 16 = x / 16 := by
  show j32 (x.tdiv 16) = _
  rw [Int.tdiv_eq_ediv_of_nonneg h]
  unfold InI at h2
  exact j32_in ⟨by omega, by omega⟩
theorem s_222 (hK_w : 4294967300 ≤ K) (c223 : TotR P (r_T 0) (RJ P) g (evF xs L ck K cW g_M n) 223) : S222 P g (evF xs L ck K cW g_M (n + 1)) := fun h hQ h0 => by
  suffices hs : ∃ r h', evF xs L ck K cW g_M (n + 1) 222 [182, h 188 4] ((a_g3, g), h) = some (1, r, ((a_g3, g), h')) ∧ QK P (r_T 0) (RJ P) h' ∧ KR (r_T 0) h h' ∧ ∃ v, r = [v] ∧ InI v by
    obtain ⟨r, h', e1_w, e2_w, e3_w, v, rfl, e4_w⟩ := hs
    exact ⟨v, h', e1_w, e2_w, e3_w, e4_w⟩
  obtain ⟨l0, s1_w, s2_w, s3_w, s4_w⟩ := hQ.2.2.2.2.1 h0
  refine tr_of gm_222 (B := fun r h' => QK P (r_T 0) (RJ P) h' ∧ KR (r_T 0) h h' ∧ ∃ v, r = [v] ∧ InI v) ?_
  show wS _ _ K bb_222 [182, h 188 4, 0, h 188 4, 0] h _
  generalize h 188 4 = a at *
  generalize evF xs L ck K cW g_M n = F at c223 ⊢
  unfold bb_222
  simp only [wf_4, wf_40, wf_5, wf_50, wf_6, wl_1, wt_1, wu_1, wa_1, wl_4, wt_4, wu_4, wa_4, wl_5, wt_5, wu_5, wa_5, wl_6, wt_6, wu_6, wa_6, wl_9, wt_9, wu_9, wa_9, wl_10, wt_10, wu_10, wa_10, wl_11, wt_11, wu_11, wa_11, wl_13, wt_13, wu_13, wa_13, wl_14, wt_14, wu_14, wa_14, wl_15, wt_15, wu_15, wa_15, wl_16, wt_16, wu_16, wa_16, wl_17, wt_17, wu_17, wa_17, wl_20, wt_20, wu_20, wa_20, wl_21, wt_21, wu_21, wa_21, wl_22, wt_22, wu_22, wa_22, wl_23, wt_23, wu_23, wa_23, wl_24, wt_24, wu_24, wa_24, wl_26, wt_26, wu_26, wa_26, wl_27, wt_27, wu_27, wa_27, wl_28, wt_28, wu_28, wa_28, we_1, we_3, we_10, we_14, we_15, we_16, we_17, we_18, we_20, we_21, we_22, we_24, we_25, we_26, we_27, we_28, we_30, we_31, we_32, wc_20, wc_21, wc_22, wc_24, wc_25, wc_26, wc_27, wc_3, wc_4, wc_7, wc_28, wc_32, ws_1, ws_2, ws_3, ws_4, ws_9, ws_10, ws_11, ws_14, ws_15, ws_16, ws_27, ws_17, ws_20, ws_28, kc_0, kc_1, kn_1, kc_2, kn_2, kc_3, kc_4, kc_5, kc_6, kc_7, kc_8, kc_9, kc_10, kc_12, kc_13, kc_14, kc_16, kc_17, kc_18, kc_19, kc_20, kc_21, kc_22, kc_24, kc_28, kc_30, kc_32, kc_37, kc_40, kc_41, kc_42, kc_43, kc_45, kc_48, kc_56, kc_57, kc_59, kc_60, kc_61, kc_64, kc_73, kc_78, kc_91, kc_95, kc_96, kc_97, kc_98, kc_99, kc_100, kc_112, kc_122, kc_125, kc_126, kc_150, kc_162, kc_163, kc_168, kc_186, kc_190, kc_200, kc_250, kc_255, kc_355, kc_356, kc_404, kc_405, kc_429, kc_573, kc_999, kc_1000, kc_1002, kc_1100, kc_1891, kc_2200, kc_4719, kc_4869, kc_4881, kc_5148, kc_9999, kn_9999, kc_10000, kc_12345, kc_19741, kc_25433, kc_65536, kc_320403, kc_628412, kc_629093, kc_660401, kc_679843, kc_918640, kc_979410, kc_1178088, kc_6232410, kc_24644941, kc_36238189, kc_38270444, kc_392531318, kc_425693491, kc_1103515245, kc_1342154595, kc_2147483648, kc_42328242873, kc_891704255789, kc_1722105685577, kc_1858726030364, ct_0, ct_1, ct_2, ct_3, ct_4, ct_5, cf_0, cf_1, cf_2, cf_3, cf_4, cf_5, w_ty6, w_ty7, m_sv, m_z0, m_hd, m_g0, m_gs, m_s0, m_ss, m_ap, m_an, forall_const, true_and, and_true, ne_eq, not_true_eq_false, not_false_eq_true, false_implies, true_implies, implies_true, eq_self, reduceCtorEq, Nat.reduceDiv, Nat.reduceMod, Int.reduceToNat, or_true, true_or, or_false, false_or, or_self, m_it, m_if, m_c1, m_01, m_02, m_03, m_04, m_10, m_12, m_13, m_14, m_20, m_21, m_23, m_24, m_30, m_31, m_32, m_34, m_40, m_41, m_42, m_43]
  refine w_lp (fun en h' => ∃ (t i : Nat) (c : Int) (l : List Int), en = [182, a, (t : Int), (i : Int), c] ∧ Seg (h 189) i l ∧ h 189 (i + l.length) = 0 ∧ i + l.length < 1100 ∧ htO t l = some 1 ∧ t ≤ 63 ∧ QK P (r_T 0) (RJ P) h' ∧ KR (r_T 0) h h') (fun en _ => (1100 - en.getD 3 0).toNat) ⟨0, a.toNat, 0, l0, by rw [Int.toNat_of_nonneg h0]; rfl, s1_w, s2_w, s3_w, s4_w, by decide, hQ, KR.rf⟩ ?_
  rintro en h1 ⟨t, i, c, l, rfl, p1_w, p2_w, p3_w, p4_w, p5_w, q1_w, q2_w⟩
  refine ⟨?_, ?_⟩
  · show (1100 - (i : Int)).toNat < K
    omega
  simp only [wf_4, wf_40, wf_5, wf_50, wf_6, wl_1, wt_1, wu_1, wa_1, wl_4, wt_4, wu_4, wa_4, wl_5, wt_5, wu_5, wa_5, wl_6, wt_6, wu_6, wa_6, wl_9, wt_9, wu_9, wa_9, wl_10, wt_10, wu_10, wa_10, wl_11, wt_11, wu_11, wa_11, wl_13, wt_13, wu_13, wa_13, wl_14, wt_14, wu_14, wa_14, wl_15, wt_15, wu_15, wa_15, wl_16, wt_16, wu_16, wa_16, wl_17, wt_17, wu_17, wa_17, wl_20, wt_20, wu_20, wa_20, wl_21, wt_21, wu_21, wa_21, wl_22, wt_22, wu_22, wa_22, wl_23, wt_23, wu_23, wa_23, wl_24, wt_24, wu_24, wa_24, wl_26, wt_26, wu_26, wa_26, wl_27, wt_27, wu_27, wa_27, wl_28, wt_28, wu_28, wa_28, we_1, we_3, we_10, we_14, we_15, we_16, we_17, we_18, we_20, we_21, we_22, we_24, we_25, we_26, we_27, we_28, we_30, we_31, we_32, wc_20, wc_21, wc_22, wc_24, wc_25, wc_26, wc_27, wc_3, wc_4, wc_7, wc_28, wc_32, ws_1, ws_2, ws_3, ws_4, ws_9, ws_10, ws_11, ws_14, ws_15, ws_16, ws_27, ws_17, ws_20, ws_28, kc_0, kc_1, kn_1, kc_2, kn_2, kc_3, kc_4, kc_5, kc_6, kc_7, kc_8, kc_9, kc_10, kc_12, kc_13, kc_14, kc_16, kc_17, kc_18, kc_19, kc_20, kc_21, kc_22, kc_24, kc_28, kc_30, kc_32, kc_37, kc_40, kc_41, kc_42, kc_43, kc_45, kc_48, kc_56, kc_57, kc_59, kc_60, kc_61, kc_64, kc_73, kc_78, kc_91, kc_95, kc_96, kc_97, kc_98, kc_99, kc_100, kc_112, kc_122, kc_125, kc_126, kc_150, kc_162, kc_163, kc_168, kc_186, kc_190, kc_200, kc_250, kc_255, kc_355, kc_356, kc_404, kc_405, kc_429, kc_573, kc_999, kc_1000, kc_1002, kc_1100, kc_1891, kc_2200, kc_4719, kc_4869, kc_4881, kc_5148, kc_9999, kn_9999, kc_10000, kc_12345, kc_19741, kc_25433, kc_65536, kc_320403, kc_628412, kc_629093, kc_660401, kc_679843, kc_918640, kc_979410, kc_1178088, kc_6232410, kc_24644941, kc_36238189, kc_38270444, kc_392531318, kc_425693491, kc_1103515245, kc_1342154595, kc_2147483648, kc_42328242873, kc_891704255789, kc_1722105685577, kc_1858726030364, ct_0, ct_1, ct_2, ct_3, ct_4, ct_5, cf_0, cf_1, cf_2, cf_3, cf_4, cf_5, w_ty6, w_ty7, m_sv, m_z0, m_hd, m_g0, m_gs, m_s0, m_ss, m_ap, m_an, forall_const, true_and, and_true, ne_eq, not_true_eq_false, not_false_eq_true, false_implies, true_implies, implies_true, eq_self, reduceCtorEq, Nat.reduceDiv, Nat.reduceMod, Int.reduceToNat, or_true, true_or, or_false, false_or, or_self, m_it, m_if, m_c1, m_01, m_02, m_03, m_04, m_10, m_12, m_13, m_14, m_20, m_21, m_23, m_24, m_30, m_31, m_32, m_34, m_40, m_41, m_42, m_43, Int.toNat_natCast]
  have e9_w : h1 189 i = h 189 i := q2_w 189 i rfl
  rw [e9_w]
  cases l with
  | nil =>
    have e0 : h 189 i = 0 := p2_w
    rw [e0]
    have e1_w : j_div 1 0 16 = 0 := by decide
    rw [e1_w]
    exact ⟨⟨by omega, by have : i < 1100 := p3_w; omega⟩, by decide, fun k => absurd rfl k, fun _ => ⟨⟨by decide, by decide⟩, q1_w, q2_w, _, rfl, ht_int q1_w.1 (by decide) _⟩⟩
  | cons x l =>
    obtain ⟨e1_w, e2_w⟩ := code_get p1_w
    obtain ⟨x0_w, x1_w, x2_w⟩ := htO_cons p4_w
    have hx := ht_int hQ.1 (q := 189) (by decide) i
    rw [e1_w] at hx
    rw [e1_w, div16 x0_w, quo16 x0_w hx]
    rw [List.length_cons] at p2_w p3_w
    have p2' : h 189 (i + 1 + l.length) = 0 := by
      rw [show i + 1 + l.length = i + (l.length + 1) by omega]
      exact p2_w
    have bi : (0 ≤ (i : Int) ∧ (i : Int) < 2200) := ⟨by omega, by omega⟩
    have n16 : ¬(16 : Int) = 0 := by decide
    have fin_w : ∀ (t' : Nat) (T I : Int) (h2 : XH), T = (t' : Int) → I = j32 ((i : Int) + 1) → QK P (r_T 0) (RJ P) h2 → KR (r_T 0) h1 h2 → htO t' l = some 1 → t' ≤ 63 → (∃ (t_1 i_1 : Nat) (c : Int) (l : List Int), [182, a, T, I, x % 16] = [182, a, (t_1 : Int), (i_1 : Int), c] ∧ Seg (h 189) i_1 l ∧ h 189 (i_1 + l.length) = 0 ∧ i_1 + l.length < 1100 ∧ htO t_1 l = some 1 ∧ t_1 ≤ 63 ∧ QK P (r_T 0) (RJ P) h2 ∧ KR (r_T 0) h h2) ∧ (1100 - I).toNat < (1100 - (i : Int)).toNat := by
      intro t' T I h2 hT_w hI k1_w k2 k3 k4
      rw [jinc (by omega) (by omega)] at hI
      subst hT_w hI
      exact ⟨⟨t', i + 1, _, l, rfl, e2_w, p2', by omega, k3, k4, k1_w, q2_w.tr k2⟩, by omega⟩
    have bt : t < 63 → (0 ≤ (t : Int) ∧ (t : Int) < 64) := fun k => ⟨by omega, by omega⟩
    have w1_w := fun (p : Nat) (v : Int) (hv : InI v) => wi_QK (q := 193) (i := p) q1_w rj_js (by decide) hv
    refine ⟨bi, n16, fun _ => ⟨bi, n16, fun c1_w => ⟨fun _ => ?_, fun k => absurd c1_w k⟩, fun c1_w => ⟨fun c2 => ⟨fun k => absurd k c1_w, fun _ => ?_⟩, fun c2 => ⟨fun c3 => ?_, fun c3 => ?_⟩⟩⟩, fun k => absurd k x1_w⟩
    · obtain ⟨-, y2, y3⟩ | ⟨y1, -⟩ | ⟨y1, -⟩ | ⟨y1, -⟩ := x2_w
      · obtain ⟨z1, z2⟩ := w1_w t (x / 16) (by unfold InI at hx ⊢; omega)
        exact ⟨bi, n16, bt y2, fin_w (t + 1) _ _ _ (jinc (by omega) (by omega)) rfl z1 z2 y3 (by omega)⟩
      all_goals omega
    · obtain ⟨y1, -⟩ | ⟨-, y0, y2, y3⟩ | ⟨y1, -⟩ | ⟨y1, -⟩ := x2_w
      · omega
      · obtain ⟨z1, z2⟩ := w1_w t _ (ht_int q1_w.1 (q := 192) (by decide) (x / 16).toNat)
        exact ⟨bi, n16, ⟨by omega, by omega⟩, bt y2, fin_w (t + 1) _ _ _ (jinc (by omega) (by omega)) rfl z1 z2 y3 (by omega)⟩
      all_goals omega
    · obtain ⟨y1, -⟩ | ⟨y1, -⟩ | ⟨-, y2, y3⟩ | ⟨y1, -⟩ := x2_w
      · omega
      · omega
      · rw [jsub (x := (t : Int)) (y := 1) (by omega) (by omega)]
        have bt1 : (0 ≤ (t : Int) - 1 ∧ (t : Int) - 1 < 64) := ⟨by omega, by omega⟩
        obtain ⟨z1, z2⟩ := w1_w ((t : Int) - 1).toNat 1 ⟨by decide, by decide⟩
        obtain ⟨z3, z4⟩ := w1_w ((t : Int) - 1).toNat 0 in_0
        exact ⟨bt1, fun _ => ⟨bt1, fin_w t _ _ _ rfl rfl z1 z2 y3 p5_w⟩, fun _ => ⟨bt1, fin_w t _ _ _ rfl rfl z3 z4 y3 p5_w⟩⟩
      · omega
    · obtain ⟨y1, -⟩ | ⟨y1, -⟩ | ⟨y1, -⟩ | ⟨-, y2, y3⟩ := x2_w
      · omega
      · omega
      · omega
      · have et : j32 ((t : Int) + -1) = ((t - 1 : Nat) : Int) := by rw [jdec (by omega) (by omega)]; omega
        rw [et]
        rw [jsub (x := ((t - 1 : Nat) : Int)) (y := 1) (by omega) (by omega)]
        have bt1 : (0 ≤ ((t - 1 : Nat) : Int) - 1 ∧ ((t - 1 : Nat) : Int) - 1 < 64) := ⟨by omega, by omega⟩
        have bt2 : (0 ≤ ((t - 1 : Nat) : Int) ∧ ((t - 1 : Nat) : Int) < 64) := ⟨by omega, by omega⟩
        obtain ⟨v, h2, f1_w, f2_w, f3_w, f4_w⟩ := use1 (av := [x % 16, h1 193 (((t - 1 : Nat) : Int) - 1).toNat, h1 193 (((t - 1 : Nat) : Int)).toNat]) c223 rp_223 rr_223 q1_w ⟨IV.top ⟨by omega, by omega⟩, IV.top (ht_int q1_w.1 (by decide) _), IV.top (ht_int q1_w.1 (by decide) _), trivial⟩
        obtain ⟨z1, z2⟩ := wi_QK (q := 193) (i := (((t - 1 : Nat) : Int) - 1).toNat) f2_w rj_js (by decide) f4_w.2.2
        exact ⟨bt1, bt2, [v], h2, f1_w, bt1, fin_w (t - 1) _ _ _ rfl rfl z1 (f3_w.tr z2) y3 (by omega)⟩
theorem t_253 (c231 : TotR P (r_T 0) (RJ P) g (evF xs L ck K cW g_M n) 231) (c252 : TotR P (r_T 0) (RJ P) g (evF xs L ck K cW g_M n) 252) (c222 : S222 P g (evF xs L ck K cW g_M n)) : TotR P (r_T 0) (RJ P) g (evF xs L ck K cW g_M (n + 1)) 253 := by
  refine tot_hand gm_253 rp_253 rr_253 ru_253 fun av h hQ hv => ?_
  obtain ⟨x, c, s, rfl, hx, hc_w, hs⟩ := il3 hv
  obtain rfl : x = 182 := hx
  have hs2 := hs.2.2
  show wS _ _ K bb_253 [182, c, s, 0] h _
  generalize evF xs L ck K cW g_M n = F at c231 c252 c222 ⊢
  unfold bb_253
  simp only [wf_4, wf_40, wf_5, wf_50, wf_6, wl_1, wt_1, wu_1, wa_1, wl_4, wt_4, wu_4, wa_4, wl_5, wt_5, wu_5, wa_5, wl_6, wt_6, wu_6, wa_6, wl_9, wt_9, wu_9, wa_9, wl_10, wt_10, wu_10, wa_10, wl_11, wt_11, wu_11, wa_11, wl_13, wt_13, wu_13, wa_13, wl_14, wt_14, wu_14, wa_14, wl_15, wt_15, wu_15, wa_15, wl_16, wt_16, wu_16, wa_16, wl_17, wt_17, wu_17, wa_17, wl_20, wt_20, wu_20, wa_20, wl_21, wt_21, wu_21, wa_21, wl_22, wt_22, wu_22, wa_22, wl_23, wt_23, wu_23, wa_23, wl_24, wt_24, wu_24, wa_24, wl_26, wt_26, wu_26, wa_26, wl_27, wt_27, wu_27, wa_27, wl_28, wt_28, wu_28, wa_28, we_1, we_3, we_10, we_14, we_15, we_16, we_17, we_18, we_20, we_21, we_22, we_24, we_25, we_26, we_27, we_28, we_30, we_31, we_32, wc_20, wc_21, wc_22, wc_24, wc_25, wc_26, wc_27, wc_3, wc_4, wc_7, wc_28, wc_32, ws_1, ws_2, ws_3, ws_4, ws_9, ws_10, ws_11, ws_14, ws_15, ws_16, ws_27, ws_17, ws_20, ws_28, kc_0, kc_1, kn_1, kc_2, kn_2, kc_3, kc_4, kc_5, kc_6, kc_7, kc_8, kc_9, kc_10, kc_12, kc_13, kc_14, kc_16, kc_17, kc_18, kc_19, kc_20, kc_21, kc_22, kc_24, kc_28, kc_30, kc_32, kc_37, kc_40, kc_41, kc_42, kc_43, kc_45, kc_48, kc_56, kc_57, kc_59, kc_60, kc_61, kc_64, kc_73, kc_78, kc_91, kc_95, kc_96, kc_97, kc_98, kc_99, kc_100, kc_112, kc_122, kc_125, kc_126, kc_150, kc_162, kc_163, kc_168, kc_186, kc_190, kc_200, kc_250, kc_255, kc_355, kc_356, kc_404, kc_405, kc_429, kc_573, kc_999, kc_1000, kc_1002, kc_1100, kc_1891, kc_2200, kc_4719, kc_4869, kc_4881, kc_5148, kc_9999, kn_9999, kc_10000, kc_12345, kc_19741, kc_25433, kc_65536, kc_320403, kc_628412, kc_629093, kc_660401, kc_679843, kc_918640, kc_979410, kc_1178088, kc_6232410, kc_24644941, kc_36238189, kc_38270444, kc_392531318, kc_425693491, kc_1103515245, kc_1342154595, kc_2147483648, kc_42328242873, kc_891704255789, kc_1722105685577, kc_1858726030364, ct_0, ct_1, ct_2, ct_3, ct_4, ct_5, cf_0, cf_1, cf_2, cf_3, cf_4, cf_5, w_ty6, w_ty7, m_sv, m_z0, m_hd, m_g0, m_gs, m_s0, m_ss, m_ap, m_an, forall_const, true_and, and_true, ne_eq, not_true_eq_false, not_false_eq_true, false_implies, true_implies, implies_true, eq_self, reduceCtorEq, Nat.reduceDiv, Nat.reduceMod, Int.reduceToNat, or_true, true_or, or_false, false_or, or_self, m_it, m_if, m_c1, m_01, m_02, m_03, m_04, m_10, m_12, m_13, m_14, m_20, m_21, m_23, m_24, m_30, m_31, m_32, m_34, m_40, m_41, m_42, m_43]
  have bc : 0 ≤ c ∧ c < 4 := ⟨hc_w.1, by have := hc_w.2; omega⟩
  have b0 : (0 : Int) ≤ 0 ∧ (0 : Int) < 4 := by decide
  have b1 : (0 : Int) ≤ 1 ∧ (1 : Int) < 4 := by decide
  have b2 : (0 : Int) ≤ 2 ∧ (2 : Int) < 4 := by decide
  have b3 : (0 : Int) ≤ 3 ∧ (3 : Int) < 4 := by decide
  have b4 : (0 : Int) ≤ 4 ∧ (4 : Int) < 190 := by decide
  obtain ⟨z1, z2⟩ := wi_QK (q := 192) (i := 0) hQ rj_js (by decide) (ht_int hQ.1 (q := 198) (by decide) c.toNat)
  obtain ⟨v1_w, h1, a1_w, a2, a3, a4⟩ := use1 (av := [182, c]) c231 rp_231 rr_231 z1 ⟨rfl, hc_w, trivial⟩
  obtain ⟨z3, z4⟩ := wi_QK (q := 192) (i := 1) a2 rj_js (by decide) a4.2.2
  obtain ⟨z5, z6⟩ := wi_QK (q := 192) (i := 2) z3 rj_js (by decide) hs2
  obtain ⟨v2, h2, d1_w, d2_w, d3_w, d4_w⟩ := use1 (av := [182, c]) c252 rp_252 rr_252 z5 ⟨rfl, IV.top ⟨by omega, by omega⟩, trivial⟩
  obtain ⟨z7, z8⟩ := wi_QK (q := 192) (i := 3) d2_w rj_js (by decide) d4_w.2.2
  refine ⟨bc, b0, [v1_w], h1, a1_w, b1, b2, [v2], h2, d1_w, b3, b4, ?_⟩
  have kr := ((((z2.tr a3).tr z4).tr z6).tr d3_w).tr z8
  have cl : ∀ (h' : XH) (v : Int), QK P (r_T 0) (RJ P) h' → KR (r_T 0) h h' → InI v → (1 : Nat) = 1 ∧ QK P (r_T 0) (RJ P) h' ∧ KR (r_T 0) h h' ∧ IL P [iT] [v] := fun h' v k1_w k2 k3 => ⟨rfl, k1_w, k2, IV.top k3, trivial⟩
  simp only [m_hd] at z7 z8 kr ⊢
  generalize j_up h2 192 3 v2 = h3 at z7 z8 kr ⊢
  have i0 : InI 0 := in_0
  have i9_w : InI 9999 := ⟨by decide, by decide⟩
  have iv_w := ht_int z7.1 (q := 198) (by decide) c.toNat
  refine ⟨fun k1_w => ⟨bc, b3, fun k2 => ⟨z7, kr, IV.top i0, trivial⟩, fun k2 => ⟨fun k3 => ⟨z7, kr, IV.top i0, trivial⟩, fun k3 => ⟨fun k4 => ⟨z7, kr, IV.top i9_w, trivial⟩, fun k4 => ⟨z7, kr, IV.top iv_w, trivial⟩⟩⟩⟩, fun k1_w => ⟨b4, ?_⟩⟩
  obtain ⟨v4_w, h4, x1_w, x2_w, x3, x4_w⟩ := c222 h3 z7 k1_w
  exact ⟨[v4_w], h4, x1_w, b3, fun k2 => ⟨x2_w, kr.tr x3, IV.top i0, trivial⟩, fun k2 => ⟨fun k3 => ⟨x2_w, kr.tr x3, IV.top i0, trivial⟩, fun k3 => ⟨fun k4 => ⟨x2_w, kr.tr x3, IV.top i9_w, trivial⟩, fun k4 => ⟨x2_w, kr.tr x3, IV.top x4_w, trivial⟩⟩⟩⟩
end HA4
end
section
/-! ===== what a method_w of the reference_w may_w write_w ===== -/
/-- all_w cells_w but some fields_w of the reference_w and some arrays_w -/
def Fr (w : List Nat × List Nat) (h h' : XH) : Prop := ∀ o k, (o = 182 → w.1.contains k = false) → w.2.contains o = false → h' o k = h o k
def fr_sub (v w : List Nat × List Nat) : Bool := v.1.all (fun k => w.1.contains k) && v.2.all (fun k => w.2.contains k)
theorem Fr.rf {w : List Nat × List Nat} {h : XH} : Fr w h h := fun _ _ _ _ => rfl
theorem Fr.tr {w : List Nat × List Nat} {h h1 h2 : XH} (a : Fr w h h1) (b : Fr w h1 h2) : Fr w h h2 := fun o k e1_w e2_w => (b o k e1_w e2_w).trans (a o k e1_w e2_w)
theorem Fr.sub {v w : List Nat × List Nat} {h h1 : XH} (hs : fr_sub v w = true) (a : Fr v h h1) : Fr w h h1 := fun o k e1_w e2_w => by
  rw [fr_sub, Bool.and_eq_true] at hs
  refine a o k (fun e => ?_) ?_
  · cases hc_w : v.1.contains k with
    | false => rfl
    | true =>
      have h3 := List.all_eq_true.mp hs.1 k (by simpa using hc_w)
      have h4 := e1_w e
      rw [h4] at h3
      cases h3
  · cases hc_w : v.2.contains o with
    | false => rfl
    | true =>
      have h3 := List.all_eq_true.mp hs.2 o (by simpa using hc_w)
      rw [e2_w] at h3
      cases h3
theorem Fr.fld {w : List Nat × List Nat} {h : XH} {k : Nat} {v : Int} (hk : w.1.contains k = true) : Fr w h (j_up h 182 k v) := fun o i e1_w _ => up_ne (fun z => by
  have := e1_w z.1
  rw [z.2, hk] at this
  cases this)
theorem Fr.arr {w : List Nat × List Nat} {h : XH} {q i : Nat} {v : Int} (hq : w.2.contains q = true) : Fr w h (j_up h q i v) := fun o j _ e2_w => up_ne (fun z => by
  rw [z.1, hq] at e2_w
  cases e2_w)
theorem Fr.pure {h h1 : XH} (a : Fr ([], []) h h1) : h1 = h := funext fun o => funext fun k => a o k (fun _ => rfl) rfl
/-- where an array of the reference_w lies -/
def fr_obj : SX → Option Nat
  | .op (.var 5) (.op a (.op b _)) => bif q_loc a == some 0 then some (r_O (sx_n b)) else none
  | _ => none
def fr_call (W : Nat → List Nat × List Nat) (C S : Nat → Bool) (s : Bool) (w : List Nat × List Nat) (f : Nat) (a : SX) : Bool := C f && fr_sub (W f) w && (S f || (!s && (match q_var a with
  | some q => q.1 == 0
  | none => false)))
def fr_E (W : Nat → List Nat × List Nat) (C S : Nat → Bool) (s : Bool) (w : List Nat × List Nat) : SX → Bool
  | .op (.var t) (.op a (.op b c)) => match t with
    | 1 => true
    | 3 => true
    | 4 => fr_E W C S s w a
    | 5 => fr_E W C S s w a
    | 7 => fr_E W C S s w a && fr_E W C S s w b && sx_n c == 0
    | 10 => fr_E W C S s w a && sx_n c == 0
    | 14 => fr_E W C S s w a && fr_E W C S s w b
    | 15 => fr_E W C S s w a && fr_E W C S s w b
    | 16 => fr_E W C S s w a && fr_E W C S s w b
    | 17 => fr_E W C S s w a && fr_E W C S s w b
    | 18 => fr_E W C S s w a
    | 20 => fr_E W C S s w a && fr_E W C S s w b
    | 21 => fr_E W C S s w a
    | 22 => fr_E W C S s w a && fr_E W C S s w b
    | 24 => fr_E W C S s w a
    | 25 => fr_E W C S s w a && fr_E W C S s w b
    | 26 => fr_E W C S s w a && fr_E W C S s w b
    | 27 => fr_E W C S s w a
    | 28 => fr_E W C S s w a && fr_E W C S s w b && fr_E W C S s w c
    | 30 => fr_E W C S s w a && fr_E W C S s w b
    | 31 => true
    | 32 => fr_E W C S s w a && fr_call W C S s w (sx_n b) a
    | _ => false
  | _ => false
/-- as_w a statement, as_w cases -/
def fr_S (W : Nat → List Nat × List Nat) (C S : Nat → Bool) (s : Bool) (w : List Nat × List Nat) : SX → Bool × Bool
  | .op (.var t) (.op a (.op b c)) => (match t with
    | 1 => true
    | 22 => true
    | 2 => (fr_S W C S s w a).1 && (fr_S W C S s w b).1
    | 3 => !(sx_n a == 0) && fr_E W C S s w b
    | 4 => !(sx_n a == 0)
    | 5 => !s && q_loc a == some 0 && fr_E W C S s w b && w.1.contains (sx_n c)
    | 6 => !s && q_loc a == some 0 && fr_E W C S s w b && w.1.contains (sx_n c / 16)
    | 7 => (match c with
      | .op (.var _) v => !s && (match fr_obj a with
        | some q => w.2.contains q && !(q == 0)
        | none => false) && fr_E W C S s w b && fr_E W C S s w v
      | _ => false)
    | 8 => (match c with
      | .op (.var _) v => !s && (match fr_obj a with
        | some q => w.2.contains q && !(q == 0)
        | none => false) && fr_E W C S s w b && fr_E W C S s w v
      | _ => false)
    | 9 => fr_E W C S s w a
    | 10 => fr_E W C S s w a && (fr_S W C S s w b).1
    | 11 => fr_E W C S s w a && (fr_S W C S s w b).1 && (fr_S W C S s w c).1
    | 12 => fr_E W C S s w a && (fr_S W C S s w b).1 && (fr_S W C S s w c).1
    | 13 => fr_E W C S s w a && (fr_S W C S s w b).1
    | 14 => true
    | 15 => true
    | 16 => fr_E W C S s w a
    | 27 => fr_E W C S s w a
    | 17 => true
    | 19 => fr_E W C S s w a && (fr_S W C S s w b).2
    | 20 => (fr_S W C S s w a).1
    | 28 => fr_E W C S s w a && (fr_S W C S s w b).1
    | _ => false, match t with
    | 25 => (fr_S W C S s w b).1 && (fr_S W C S s w c).2
    | 26 => (fr_S W C S s w a).1
    | _ => false)
  | _ => (false, false)
/-- what calls are known_w to write_w -/
def FrF (W : Nat → List Nat × List Nat) (C S : Nat → Bool) (F : XP) : Prop := ∀ (f : Nat) (av : List Int) (g : XS × Nat × Nat) (h : XH) (c : Nat) (r : List Int) (g' : XS × Nat × Nat) (h' : XH), C f = true → g.1 = a_g3 → (S f = true ∨ av.getD 0 0 = 182) → F f av (g, h) = some (c, r, (g', h')) → g'.1 = a_g3 ∧ Fr (W f) h h'
section FRM
variable {xs : Nat → Int} {L K : Nat} {ck : Nat → List Nat} {F : XP} {cW : Nat → Nat → Int} {W : Nat → List Nat × List Nat} {C S : Nat → Bool} {s : Bool} {w : List Nat × List Nat}
def FrE (w : List Nat × List Nat) (s : Bool) (A : XE) : Prop := ∀ (en : List Int) (g : XS × Nat × Nat) (h : XH) (r : List Int) (g' : XS × Nat × Nat) (h' : XH), g.1 = a_g3 → (s = true ∨ en.getD 0 0 = 182) → A en (g, h) = some (r, (g', h')) → g'.1 = a_g3 ∧ Fr w h h'
def FrS (w : List Nat × List Nat) (s : Bool) (A : XR) : Prop := ∀ (en : List Int) (g : XS × Nat × Nat) (h : XH) (c : Nat) (vs en' : List Int) (g' : XS × Nat × Nat) (h' : XH), g.1 = a_g3 → (s = true ∨ en.getD 0 0 = 182) → A en (g, h) = some (c, vs, en', (g', h')) → g'.1 = a_g3 ∧ Fr w h h' ∧ (s = true ∨ en'.getD 0 0 = 182)
def FrK (w : List Nat × List Nat) (s : Bool) (A : XR) : Prop := ∀ (v : Int) (en : List Int) (g : XS × Nat × Nat) (h : XH) (c : Nat) (vs en' : List Int) (g' : XS × Nat × Nat) (h' : XH), g.1 = a_g3 → (s = true ∨ en.getD 0 0 = 182) → A (v :: en) (g, h) = some (c, vs, en', (g', h')) → g'.1 = a_g3 ∧ Fr w h h' ∧ (s = true ∨ en'.getD 0 0 = 182)
theorem fe_1 {A X : XE} {f : List Int → XT → Option (List Int)} (hA : FrE w s A) (hX : ∀ en st, X en st = (A en st).bind fun x => (f x.1 x.2).bind fun v => some (v, x.2)) : FrE w s X := fun en g h r g' h' hg ht he => by
  rw [hX] at he
  obtain ⟨⟨x, gx, hx⟩, e1_w, e2_w⟩ := j_bd he
  obtain ⟨v, -, e3_w⟩ := j_bd e2_w
  cases e3_w
  exact hA en g h x _ _ hg ht e1_w
theorem fe_2 {A B X : XE} {f : List Int → List Int → XT → XT → Option (List Int)} (hA : FrE w s A) (hB_w : FrE w s B) (hX : ∀ en st, X en st = (A en st).bind fun x => (B en x.2).bind fun y => (f x.1 y.1 x.2 y.2).bind fun v => some (v, y.2)) : FrE w s X := fun en g h r g' h' hg ht he => by
  rw [hX] at he
  obtain ⟨⟨x, gx, hx⟩, e1_w, e2_w⟩ := j_bd he
  obtain ⟨⟨y, gy, hy⟩, e3_w, e4_w⟩ := j_bd e2_w
  obtain ⟨v, -, e5_w⟩ := j_bd e4_w
  cases e5_w
  obtain ⟨k1_w, k2⟩ := hA en g h x _ _ hg ht e1_w
  obtain ⟨k3, k4⟩ := hB_w en gx hx y _ _ k1_w ht e3_w
  exact ⟨k3, k2.tr k4⟩
theorem fe_ife {A B D : XE} (hA : FrE w s A) (hB_w : FrE w s B) (hC : FrE w s D) : FrE w s (n_ife A B D) := fun en g h r g' h' hg ht he => by
  unfold n_ife at he
  obtain ⟨⟨x, gx, hx⟩, e1_w, e2_w⟩ := j_bd he
  obtain ⟨k1_w, k2⟩ := hA en g h x _ _ hg ht e1_w
  dsimp only at e2_w
  split at e2_w
  · obtain ⟨k3, k4⟩ := hC en gx hx r _ _ k1_w ht e2_w
    exact ⟨k3, k2.tr k4⟩
  · obtain ⟨k3, k4⟩ := hB_w en gx hx r _ _ k1_w ht e2_w
    exact ⟨k3, k2.tr k4⟩
theorem fe_c {v : List Int} : FrE w s (fun _ st => some (v, st)) := fun en g h r g' h' hg _ he => by cases he; exact ⟨hg, Fr.rf⟩
theorem fe_nz {A : XE} (hA : FrE w s A) : FrE w s (n_nz A) := fe_1 (f := fun x _ => some [j_b (decide (j_hd x ≠ 0))]) hA (fun _ _ => rfl)
theorem fr_E_ok (hF : FrF W C S F) : ∀ (t : SX), fr_E W C S s w t = true → FrE w s (evE xs L ck F cW t)
  | .op (.var t) (.op a (.op b c)), ht => by
    have iA := fun k => fr_E_ok hF a k
    have iB_w := fun k => fr_E_ok hF b k
    have iC := fun k => fr_E_ok hF c k
    unfold fr_E at ht
    show FrE w s (nodeE xs L ck F cW t a b c (evE xs L ck F cW a) (evE xs L ck F cW b) (evE xs L ck F cW c))
    split at ht
    · exact fe_c
    · exact fun en g h r g' h' hg _ he => by cases he; exact ⟨hg, Fr.rf⟩
    · exact fe_1 (f := fun x st => some [st.2 (j_hd x).toNat (sx_n b)]) (iA ht) (fun _ _ => rfl)
    · exact fe_1 (f := fun x st => (j_rf st.1.1 (j_hd x).toNat (sx_n b)).map fun r => [r]) (iA ht) (fun en st => by
        show (evE xs L ck F cW a en st).bind (fun x => (j_rf x.2.1.1 (j_hd x.1).toNat (sx_n b)).bind fun r => some ([r], x.2)) = _
        congr 1
        funext x
        cases j_rf x.2.1.1 (j_hd x.1).toNat (sx_n b) <;> rfl)
    · simp only [Bool.and_eq_true, beq_iff_eq] at ht
      refine fe_2 (f := fun x y st st2_w => if 0 ≤ j_hd y ∧ j_hd y < j_len st2_w.1.1 (j_hd x).toNat then some [st2_w.2 (j_hd x).toNat (j_hd y).toNat] else none) (iA ht.1.1) (iB_w ht.1.2) (fun en st => ?_)
      show n_aload xs L (sx_n c) _ _ en st = _
      unfold n_aload
      rw [ht.2]
      congr 1
      funext x
      congr 1
      funext y
      by_cases hh : 0 ≤ j_hd y.1 ∧ j_hd y.1 < j_len y.2.1.1 (j_hd x.1).toNat
      · simp [hh]
      · simp [hh]
    · simp only [Bool.and_eq_true, beq_iff_eq] at ht
      refine fe_1 (f := fun x st => some [j_len st.1.1 (j_hd x).toNat]) (iA ht.1) (fun en st => ?_)
      show n_alen L (sx_n c) _ en st = _
      unfold n_alen
      rw [ht.2]
      rfl
    · rw [Bool.and_eq_true] at ht
      exact fe_2 (f := fun x y _ _ => some [j_iop (sx_n c) (j_hd x) (j_hd y)]) (iA ht.1) (iB_w ht.2) (fun _ _ => rfl)
    · rw [Bool.and_eq_true] at ht
      exact fe_2 (f := fun x y _ _ => some [j_lop (sx_n c) (j_hd x) (j_hd y)]) (iA ht.1) (iB_w ht.2) (fun _ _ => rfl)
    · rw [Bool.and_eq_true] at ht
      exact fe_2 (f := fun x y _ _ => some [j_lsh (sx_n c) (j_hd x) (j_hd y)]) (iA ht.1) (iB_w ht.2) (fun _ _ => rfl)
    · rw [Bool.and_eq_true] at ht
      refine fe_2 (f := fun x y _ _ => if j_hd y = 0 then none else some [j_div (sx_n c) (j_hd x) (j_hd y)]) (iA ht.1) (iB_w ht.2) (fun en st => ?_)
      show (evE xs L ck F cW a en st).bind (fun x => (evE xs L ck F cW b en x.2).bind fun y => if j_hd y.1 = 0 then none else some ([j_div (sx_n c) (j_hd x.1) (j_hd y.1)], y.2)) = _
      congr 1
      funext x
      congr 1
      funext y
      split <;> rfl
    · exact fe_1 (f := fun x _ => some [j_un (sx_n c) (j_hd x)]) (iA ht) (fun _ _ => rfl)
    · rw [Bool.and_eq_true] at ht
      exact fe_2 (f := fun x y _ _ => some [j_b (j_cmp (sx_n c) (j_hd x) (j_hd y))]) (iA ht.1) (iB_w ht.2) (fun _ _ => rfl)
    · exact fe_1 (f := fun x _ => some [j_b (j_cmp (sx_n c) (j_hd x) 0)]) (iA ht) (fun _ _ => rfl)
    · rw [Bool.and_eq_true] at ht
      exact fe_2 (f := fun x y _ _ => some [j_b (j_cmp (sx_n c) (j_hd x) (j_hd y))]) (iA ht.1) (iB_w ht.2) (fun _ _ => rfl)
    · exact iA ht
    · rw [Bool.and_eq_true] at ht
      exact fe_ife (iA ht.1) (fe_nz (iB_w ht.2)) fe_c
    · rw [Bool.and_eq_true] at ht
      exact fe_ife (iA ht.1) fe_c (fe_nz (iB_w ht.2))
    · exact fe_1 (f := fun x _ => some [j_b (decide (j_hd x = 0))]) (iA ht) (fun _ _ => rfl)
    · rw [Bool.and_eq_true, Bool.and_eq_true] at ht
      exact fe_ife (iA ht.1.1) (iB_w ht.1.2) (iC ht.2)
    · rw [Bool.and_eq_true] at ht
      exact fe_2 (f := fun x y _ _ => some (x ++ y)) (iA ht.1) (iB_w ht.2) (fun _ _ => rfl)
    · exact fe_c
    · rw [Bool.and_eq_true] at ht
      obtain ⟨h1, h2⟩ := ht
      simp only [fr_call, Bool.and_eq_true, Bool.or_eq_true] at h2
      obtain ⟨⟨h2, h3⟩, h4⟩ := h2
      intro en g h r g' h' hg hth he
      have he2 : n_call F (sx_n b) (evE xs L ck F cW a) en (g, h) = some (r, (g', h')) := he
      unfold n_call at he2
      obtain ⟨⟨av, ga, ha_w⟩, e1_w, e2_w⟩ := j_bd he2
      obtain ⟨⟨c1_w, r1_w, g1, h1'⟩, e3_w, e4_w⟩ := j_bd e2_w
      obtain ⟨-, e5_w⟩ := j_if e4_w
      cases e5_w
      obtain ⟨k1_w, k2⟩ := (iA h1) en g h av _ _ hg hth e1_w
      have hthis : S (sx_n b) = true ∨ av.getD 0 0 = 182 := by
        rcases h4 with h4 | ⟨h4, h5⟩
        · exact Or.inl h4
        · right
          have hs : en.getD 0 0 = 182 := hth.resolve_left (by
            intro k
            rw [k] at h4
            cases h4)
          cases hq : q_var a with
          | none => rw [hq] at h5; cases h5
          | some q =>
            rw [hq] at h5
            have h6 : q.1 = 0 := by simpa using h5
            rw [q_var_ok hq] at e1_w
            obtain ⟨z, -, e6_w⟩ := j_bd e1_w
            have e7_w := congrArg Prod.fst (Option.some.inj e6_w)
            dsimp only at e7_w
            rw [← e7_w, h6]
            exact hs
      obtain ⟨k3, k4⟩ := hF _ av ga ha_w _ _ _ _ h2 k1_w hthis e3_w
      exact ⟨k3, k2.tr (k4.sub h3)⟩
    · cases ht
  | .var _, ht => by cases ht
  | .op (.op _ _) _, ht => by cases ht
  | .op (.var _) (.var _), ht => by cases ht
  | .op (.var _) (.op _ (.var _)), ht => by cases ht
theorem fs_c {k : Nat} : FrS w s (fun en st => some (k, [], en, st)) := fun en g h c vs en' g' h' hg ht he => by cases he; exact ⟨hg, Fr.rf, ht⟩
theorem fs_seq {A B : XR} (hA : FrS w s A) (hB_w : FrS w s B) : FrS w s (s_seq A B) := fun en g h c vs en' g' h' hg ht he => by
  unfold s_seq at he
  obtain ⟨⟨c1_w, v1_w, en1, g1, h1⟩, e1_w, e2_w⟩ := j_bd he
  obtain ⟨k1_w, k2, k3⟩ := hA _ _ _ _ _ _ _ _ hg ht e1_w
  dsimp only at e2_w
  split at e2_w
  · obtain ⟨m1_w, m2_w, m3_w⟩ := hB_w _ _ _ _ _ _ _ _ k1_w k3 e2_w
    exact ⟨m1_w, k2.tr m2_w, m3_w⟩
  · cases e2_w
    exact ⟨k1_w, k2, k3⟩
theorem fs_if {X : XE} {A B : XR} (hX : FrE w s X) (hA : FrS w s A) (hB_w : FrS w s B) : FrS w s (s_if X A B) := fun en g h c vs en' g' h' hg ht he => by
  unfold s_if at he
  obtain ⟨⟨x, g1, h1⟩, e1_w, e2_w⟩ := j_bd he
  obtain ⟨k1_w, k2⟩ := hX _ _ _ _ _ _ hg ht e1_w
  dsimp only at e2_w
  split at e2_w
  · obtain ⟨m1_w, m2_w, m3_w⟩ := hB_w _ _ _ _ _ _ _ _ k1_w ht e2_w
    exact ⟨m1_w, k2.tr m2_w, m3_w⟩
  · obtain ⟨m1_w, m2_w, m3_w⟩ := hA _ _ _ _ _ _ _ _ k1_w ht e2_w
    exact ⟨m1_w, k2.tr m2_w, m3_w⟩
theorem fs_loop {X : XE} {A B : XR} (hX : FrE w s X) (hA : FrS w s A) (hB_w : FrS w s B) : ∀ k, FrS w s (s_loop X A B k)
  | 0 => fun en g h c vs en' g' h' hg ht he => by cases he
  | k + 1 => fun en g h c vs en' g' h' hg ht he => by
    unfold s_loop at he
    obtain ⟨⟨x, g1, h1⟩, e1_w, e2_w⟩ := j_bd he
    obtain ⟨k1_w, k2⟩ := hX _ _ _ _ _ _ hg ht e1_w
    dsimp only at e2_w
    split at e2_w
    · cases e2_w
      exact ⟨k1_w, k2, ht⟩
    · obtain ⟨⟨c1_w, v1_w, en1, g2, h2⟩, e3_w, e4_w⟩ := j_bd e2_w
      obtain ⟨m1_w, m2_w, m3_w⟩ := hA _ _ _ _ _ _ _ _ k1_w ht e3_w
      dsimp only at e4_w
      split at e4_w
      · obtain ⟨⟨c2, v2, en2, g3_w, h3⟩, e5_w, e6_w⟩ := j_bd e4_w
        obtain ⟨n1_w, n2_w, n3_w⟩ := hB_w _ _ _ _ _ _ _ _ m1_w m3_w e5_w
        dsimp only at e6_w
        split at e6_w
        · obtain ⟨o1, o2, o3_w⟩ := fs_loop hX hA hB_w k _ _ _ _ _ _ _ _ n1_w n3_w e6_w
          exact ⟨o1, ((k2.tr m2_w).tr n2_w).tr o2, o3_w⟩
        · cases e6_w
      · split at e4_w
        · cases e4_w
          exact ⟨m1_w, k2.tr m2_w, m3_w⟩
        · cases e4_w
          exact ⟨m1_w, k2.tr m2_w, m3_w⟩
theorem fs_do {X : XE} {A : XR} (hX : FrE w s X) (hA : FrS w s A) : ∀ k, FrS w s (s_do A X k)
  | 0 => fun en g h c vs en' g' h' hg ht he => by cases he
  | k + 1 => fun en g h c vs en' g' h' hg ht he => by
    unfold s_do at he
    obtain ⟨⟨c1_w, v1_w, en1, g2, h2⟩, e3_w, e4_w⟩ := j_bd he
    obtain ⟨m1_w, m2_w, m3_w⟩ := hA _ _ _ _ _ _ _ _ hg ht e3_w
    dsimp only at e4_w
    split at e4_w
    · obtain ⟨⟨x, g3_w, h3⟩, e5_w, e6_w⟩ := j_bd e4_w
      obtain ⟨n1_w, n2_w⟩ := hX _ _ _ _ _ _ m1_w m3_w e5_w
      dsimp only at e6_w
      split at e6_w
      · cases e6_w
        exact ⟨n1_w, m2_w.tr n2_w, m3_w⟩
      · obtain ⟨o1, o2, o3_w⟩ := fs_do hX hA k _ _ _ _ _ _ _ _ n1_w m3_w e6_w
        exact ⟨o1, (m2_w.tr n2_w).tr o2, o3_w⟩
    · split at e4_w
      · cases e4_w
        exact ⟨m1_w, m2_w, m3_w⟩
      · cases e4_w
        exact ⟨m1_w, m2_w, m3_w⟩
theorem fs_e {X : XE} {A : XR} {k : Nat} {f : List Int → List Int} (hX : FrE w s X) (hA : ∀ en st r, A en st = some r → ∃ x, X en st = some x ∧ ∃ vs, r = (k, vs, en, x.2)) : FrS w s A := fun en g h c vs en' g' h' hg ht he => by
  obtain ⟨⟨x, g1, h1⟩, e1_w, vs', e2_w⟩ := hA _ _ _ he
  cases e2_w
  obtain ⟨k1_w, k2⟩ := hX _ _ _ _ _ _ hg ht e1_w
  exact ⟨k1_w, k2, ht⟩
/-- the object of a store_w -/
theorem fo_this {a : SX} (h : q_loc a = some 0) {en : List Int} (ht : en.getD 0 0 = 182) (st : XT) : evE xs L ck F cW a en st = some ([182], st) := by
  rw [q_loc_ok h, ht]
theorem fo_arr {a : SX} {q : Nat} (h : fr_obj a = some q) (hq : q ≠ 0) {en : List Int} (ht : en.getD 0 0 = 182) {st : XT} (hg : st.1.1 = a_g3) : evE xs L ck F cW a en st = some ([(q : Int)], st) := by
  unfold fr_obj at h
  split at h
  · obtain ⟨h1, h2⟩ := b_if h
    rename_i a' b' c'
    rw [beq_iff_eq] at h1
    show (evE xs L ck F cW _ en st).bind _ = _
    rw [fo_this h1 ht, Option.bind_some]
    show (j_rf st.1.1 182 (sx_n _)).bind _ = _
    rw [hg, (r_tab 0).2.1 _ (by
      show r_O (sx_n _) ≠ 0
      rw [h2]
      exact hq)]
    show some ([(r_O (sx_n _) : Int)], st) = _
    rw [h2]
  · cases h
theorem fr_S_ok (hF : FrF W C S F) : ∀ (t : SX), ((fr_S W C S s w t).1 = true → FrS w s (evS xs L ck F K cW t)) ∧ ((fr_S W C S s w t).2 = true → FrK w s (evS xs L ck F K cW t))
  | .op (.var t) (.op a (.op b c)) => by
    have iA := fr_S_ok hF a
    have iB_w := fr_S_ok hF b
    have iC := fr_S_ok hF c
    have e := fun t k => fr_E_ok (xs := xs) (L := L) (ck := ck) (cW := cW) (s := s) (w := w) hF t k
    constructor
    · intro ht
      show FrS w s (nodeS xs L ck F K cW t a b c (evS xs L ck F K cW a) (evS xs L ck F K cW b) (evS xs L ck F K cW c))
      unfold fr_S at ht
      dsimp only at ht
      split at ht
      · exact fs_c
      · exact fs_c
      · rw [Bool.and_eq_true] at ht
        exact fs_seq (iA.1 ht.1) (iB_w.1 ht.2)
      · rw [Bool.and_eq_true] at ht
        intro en g h k vs en' g' h' hg hth he
        obtain ⟨⟨x, g1, h1⟩, e1_w, e2_w⟩ := j_bd (show ((evE xs L ck F cW b en (g, h)).bind fun x => some (0, [], en.set (sx_n a) (j_hd x.1), x.2)) = _ from he)
        cases e2_w
        obtain ⟨k1_w, k2⟩ := e b ht.2 _ _ _ _ _ _ hg hth e1_w
        refine ⟨k1_w, k2, hth.imp id (fun z => ?_)⟩
        rw [set_ne (by simpa using ht.1)]
        exact z
      · intro en g h k vs en' g' h' hg hth he
        cases he
        refine ⟨hg, Fr.rf, hth.imp id (fun z => ?_)⟩
        rw [set_ne (by simpa using ht)]
        exact z
      · simp only [Bool.and_eq_true, Bool.not_eq_true', beq_iff_eq] at ht
        obtain ⟨⟨⟨h1, h2⟩, h3⟩, h4⟩ := ht
        intro en g h k vs en' g' h' hg hth he
        have hs : en.getD 0 0 = 182 := hth.resolve_left (by rw [h1]; decide)
        have he2 : s_putf (sx_n c) (evE xs L ck F cW a) (evE xs L ck F cW b) en (g, h) = some (k, vs, en', (g', h')) := he
        unfold s_putf at he2
        rw [fo_this h2 hs, Option.bind_some] at he2
        obtain ⟨⟨y, g1, h1'⟩, e1_w, e2_w⟩ := j_bd he2
        cases e2_w
        obtain ⟨k1_w, k2⟩ := e b h3 _ _ _ _ _ _ hg hth e1_w
        exact ⟨k1_w, k2.tr (Fr.fld h4), hth⟩
      · simp only [Bool.and_eq_true, Bool.not_eq_true', beq_iff_eq] at ht
        obtain ⟨⟨⟨h1, h2⟩, h3⟩, h4⟩ := ht
        intro en g h k vs en' g' h' hg hth he
        have hs : en.getD 0 0 = 182 := hth.resolve_left (by rw [h1]; decide)
        have he2 : s_putfC (sx_n c / 16) (sx_n c % 16) (evE xs L ck F cW a) (evE xs L ck F cW b) en (g, h) = some (k, vs, en', (g', h')) := he
        unfold s_putfC at he2
        rw [fo_this h2 hs, Option.bind_some] at he2
        obtain ⟨⟨y, g1, h1'⟩, e1_w, e2_w⟩ := j_bd he2
        cases e2_w
        obtain ⟨k1_w, k2⟩ := e b h3 _ _ _ _ _ _ hg hth e1_w
        exact ⟨k1_w, k2.tr (Fr.fld h4), hth⟩
      · match c, ht with
        | .op (.var ty_w) v, ht =>
          simp only [Bool.and_eq_true, Bool.not_eq_true'] at ht
          obtain ⟨⟨⟨h1, h2⟩, h3⟩, h4⟩ := ht
          intro en g h k vs en' g' h' hg hth he
          have hs : en.getD 0 0 = 182 := hth.resolve_left (by rw [h1]; decide)
          cases ho : fr_obj a with
          | none => rw [ho] at h2; cases h2
          | some q =>
            rw [ho] at h2
            simp only [Bool.and_eq_true, Bool.not_eq_true', beq_eq_false_iff_ne] at h2
            have he2 : s_ast ty_w (evE xs L ck F cW a) (evE xs L ck F cW b) (evE xs L ck F cW v) en (g, h) = some (k, vs, en', (g', h')) := he
            unfold s_ast at he2
            rw [fo_arr ho h2.2 hs hg, Option.bind_some] at he2
            obtain ⟨⟨y, g1, h1'⟩, e1_w, e2_w⟩ := j_bd he2
            obtain ⟨⟨z, g2, h2'⟩, e3_w, e4_w⟩ := j_bd e2_w
            obtain ⟨-, e5_w⟩ := j_if e4_w
            cases e5_w
            obtain ⟨k1_w, k2⟩ := e b h3 _ _ _ _ _ _ hg hth e1_w
            obtain ⟨k3, k4⟩ := e v h4 _ _ _ _ _ _ k1_w hth e3_w
            exact ⟨k3, (k2.tr k4).tr (Fr.arr h2.1), hth⟩
        | .var _, ht => cases ht
        | .op (.op _ _) _, ht => cases ht
      · match c, ht with
        | .op (.var op_w) v, ht =>
          simp only [Bool.and_eq_true, Bool.not_eq_true'] at ht
          obtain ⟨⟨⟨h1, h2⟩, h3⟩, h4⟩ := ht
          intro en g h k vs en' g' h' hg hth he
          have hs : en.getD 0 0 = 182 := hth.resolve_left (by rw [h1]; decide)
          cases ho : fr_obj a with
          | none => rw [ho] at h2; cases h2
          | some q =>
            rw [ho] at h2
            simp only [Bool.and_eq_true, Bool.not_eq_true', beq_eq_false_iff_ne] at h2
            have he2 : s_astC op_w (evE xs L ck F cW a) (evE xs L ck F cW b) (evE xs L ck F cW v) en (g, h) = some (k, vs, en', (g', h')) := he
            unfold s_astC at he2
            rw [fo_arr ho h2.2 hs hg, Option.bind_some] at he2
            obtain ⟨⟨y, g1, h1'⟩, e1_w, e2_w⟩ := j_bd he2
            obtain ⟨-, e2_w⟩ := j_ifx e2_w
            obtain ⟨⟨z, g2, h2'⟩, e3_w, e4_w⟩ := j_bd e2_w
            obtain ⟨-, e5_w⟩ := j_if e4_w
            cases e5_w
            obtain ⟨k1_w, k2⟩ := e b h3 _ _ _ _ _ _ hg hth e1_w
            obtain ⟨k3, k4⟩ := e v h4 _ _ _ _ _ _ k1_w hth e3_w
            exact ⟨k3, (k2.tr k4).tr (Fr.arr h2.1), hth⟩
        | .var _, ht => cases ht
        | .op (.op _ _) _, ht => cases ht
      · exact fs_e (f := id) (e a ht) (fun en st r he => by
          obtain ⟨x, e1_w, e2_w⟩ := j_bd he
          cases e2_w
          exact ⟨x, e1_w, _, rfl⟩)
      · rw [Bool.and_eq_true] at ht
        exact fs_if (e a ht.1) (iB_w.1 ht.2) fs_c
      · rw [Bool.and_eq_true, Bool.and_eq_true] at ht
        exact fs_if (e a ht.1.1) (iB_w.1 ht.1.2) (iC.1 ht.2)
      · rw [Bool.and_eq_true, Bool.and_eq_true] at ht
        exact fs_loop (e a ht.1.1) (iB_w.1 ht.1.2) (iC.1 ht.2) K
      · rw [Bool.and_eq_true] at ht
        exact fs_do (e a ht.1) (iB_w.1 ht.2) K
      · exact fs_c
      · exact fs_c
      · exact fs_e (f := id) (e a ht) (fun en st r he => by
          obtain ⟨x, e1_w, e2_w⟩ := j_bd he
          cases e2_w
          exact ⟨x, e1_w, _, rfl⟩)
      · exact fs_e (f := id) (e a ht) (fun en st r he => by
          obtain ⟨x, e1_w, e2_w⟩ := j_bd he
          obtain ⟨-, e3_w⟩ := j_if e2_w
          cases e3_w
          exact ⟨x, e1_w, _, rfl⟩)
      · exact fs_c
      · rw [Bool.and_eq_true] at ht
        intro en g h k vs en' g' h' hg hth he
        have he2 : s_sw (evE xs L ck F cW a) (evS xs L ck F K cW b) en (g, h) = some (k, vs, en', (g', h')) := he
        unfold s_sw at he2
        obtain ⟨⟨x, g1, h1⟩, e1_w, e2_w⟩ := j_bd he2
        obtain ⟨k1_w, k2⟩ := e a ht.1 _ _ _ _ _ _ hg hth e1_w
        obtain ⟨⟨c1_w, v1_w, en1, g2, h2⟩, e3_w, e4_w⟩ := j_bd e2_w
        obtain ⟨m1_w, m2_w, m3_w⟩ := iB_w.2 ht.2 _ _ _ _ _ _ _ _ _ k1_w hth e3_w
        dsimp only at e4_w
        split at e4_w
        · cases e4_w
          exact ⟨m1_w, k2.tr m2_w, m3_w⟩
        · cases e4_w
          exact ⟨m1_w, k2.tr m2_w, m3_w⟩
      · exact iA.1 ht
      · rw [Bool.and_eq_true] at ht
        exact fs_if (e a ht.1) (iB_w.1 ht.2) fs_c
      · cases ht
    · intro ht
      show FrK w s (nodeS xs L ck F K cW t a b c (evS xs L ck F K cW a) (evS xs L ck F K cW b) (evS xs L ck F K cW c))
      unfold fr_S at ht
      dsimp only at ht
      split at ht
      · rw [Bool.and_eq_true] at ht
        intro v en g h k vs en' g' h' hg hth he
        have he2 : (if (sx_l a).any (fun n => decide ((v :: en).headD 0 = sx_z n)) then (evS xs L ck F K cW b (v :: en).tail (g, h)).bind fun r => if r.1 = 0 then none else some r else evS xs L ck F K cW c (v :: en) (g, h)) = some (k, vs, en', (g', h')) := he
        split at he2
        · obtain ⟨⟨c1_w, v1_w, en1, g1, h1⟩, e3_w, e4_w⟩ := j_bd he2
          have h3 := iB_w.1 ht.1 _ _ _ _ _ _ _ _ hg hth e3_w
          dsimp only at e4_w
          split at e4_w
          · cases e4_w
          · cases e4_w
            exact h3
        · exact iC.2 ht.2 _ _ _ _ _ _ _ _ _ hg hth he2
      · exact fun v en g h k vs en' g' h' hg hth he => iA.1 ht _ _ _ _ _ _ _ _ hg hth he
      · cases ht
  | .var _ => ⟨fun h => (by cases h), fun h => (by cases h)⟩
  | .op (.op _ _) _ => ⟨fun h => (by cases h), fun h => (by cases h)⟩
  | .op (.var _) (.var _) => ⟨fun h => (by cases h), fun h => (by cases h)⟩
  | .op (.var _) (.op _ (.var _)) => ⟨fun h => (by cases h), fun h => (by cases h)⟩
end FRM
end
section
/-! ===== what the reference's methods may_w write_w: this claim's table_w (written_w by wip/tools/frtab.py) ===== -/
def m_W : Nat → List Nat × List Nat := fun f => bif Nat.ble 183 f then t_at [[([0, 2], [183]), ([2], [183]), ([], []), ([], []), ([], []), ([], []), ([], []), ([2, 3, 7, 8], [184, 185, 186]), ([8], []), ([], []), ([], []), ([7, 8], []), ([7], []), ([7], []), ([7, 8], []), ([], [])],
  [([], [188]), ([7, 8], []), ([], []), ([7, 8], []), ([], []), ([], []), ([7, 8], []), ([0, 2, 3, 7, 8, 12, 18, 19], [184, 185, 186, 188, 189, 190, 191, 194, 195]), ([], []), ([7, 8], [190]), ([7, 8], [188]), ([7, 8, 12], [188, 189, 190]), ([7, 8], [188]), ([7, 8], [188, 190]), ([7, 8], [188, 190]), ([0, 2, 3, 7, 8], [184, 185, 186, 191])],
  [([7, 8], [191]), ([12], [189]), ([7, 8, 12], [189]), ([7, 8, 12], [189]), ([7, 8, 12], [189]), ([7, 8, 12], [189]), ([7, 8, 12], [189]), ([], [193]), ([], []), ([], [194]), ([], []), ([], []), ([], []), ([], []), ([], []), ([], [])],
  [([], []), ([], []), ([], []), ([], []), ([], []), ([], []), ([], []), ([], []), ([], []), ([], [194]), ([18, 19], [191, 194, 195]), ([18], [194]), ([], []), ([], []), ([], []), ([], [])],
  [([], []), ([], []), ([], []), ([], []), ([], [201, 202]), ([], []), ([], [192, 193]), ([25], [192, 193, 196, 197, 198, 199, 200, 201, 202]), ([], [197, 200, 201, 202]), ([], []), ([], []), ([25], [192, 193, 196, 197, 198, 199, 200, 201, 202]), ([25], [192, 193, 196, 197, 198, 199, 200, 201, 202]), ([], []), ([0], []), ([0], [])],
  [([0], []), ([], [194]), ([0, 18], [194]), ([], [194]), ([0, 18], [194]), ([0, 18], [194]), ([], [194]), ([25], [192, 193, 194, 196, 197, 198, 199, 200, 201, 202]), ([0, 18, 25], [192, 193, 194, 196, 197, 198, 199, 200, 201, 202]), ([0, 18], [194]), ([0, 25], [192, 193, 194, 196, 197, 198, 199, 200, 201, 202]), ([0], []), ([0], []), ([0], []), ([0, 25], [192, 193, 196, 197, 198, 199, 200, 201, 202]), ([0, 25], [192, 193, 196, 197, 198, 199, 200, 201, 202])],
  [([0, 25], [192, 193, 196, 197, 198, 199, 200, 201, 202]), ([0, 25], [192, 193, 196, 197, 198, 199, 200, 201, 202]), ([0, 25], [192, 193, 196, 197, 198, 199, 200, 201, 202]), ([0, 25], [192, 193, 196, 197, 198, 199, 200, 201, 202]), ([0], []), ([0], []), ([25], [192, 193, 196, 197, 198, 199, 200, 201, 202]), ([0, 25], [192, 193, 196, 197, 198, 199, 200, 201, 202]), ([25], [192, 193, 196, 197, 198, 199, 200, 201, 202]), ([0, 25], [192, 193, 196, 197, 198, 199, 200, 201, 202]), ([0], []), ([], []), ([], []), ([0], []), ([0], []), ([0, 25], [192, 193, 196, 197, 198, 199, 200, 201, 202])],
  [([0], []), ([0], []), ([0], []), ([19], [194]), ([0, 19, 25], [192, 193, 194, 196, 197, 198, 199, 200, 201, 202]), ([0, 19, 25], [192, 193, 194, 196, 197, 198, 199, 200, 201, 202]), ([19, 25], [192, 193, 194, 196, 197, 198, 199, 200, 201, 202]), ([0, 19, 25], [192, 193, 194, 196, 197, 198, 199, 200, 201, 202]), ([0, 19, 25], [192, 193, 194, 196, 197, 198, 199, 200, 201, 202]), ([0], [194]), ([25], [192, 193, 196, 197, 198, 199, 200, 201, 202]), ([0, 25], [192, 193, 196, 197, 198, 199, 200, 201, 202]), ([0, 25], [192, 193, 196, 197, 198, 199, 200, 201, 202]), ([25], [192, 193, 196, 197, 198, 199, 200, 201, 202]), ([29], []), ([0, 19, 25, 29], [192, 193, 194, 196, 197, 198, 199, 200, 201, 202])],
  [([0, 18], [194, 195]), ([], []), ([0], []), ([], []), ([], []), ([], []), ([], []), ([], []), ([], []), ([], []), ([], []), ([], []), ([], []), ([], []), ([], []), ([], [])]] ([], []) (f - 183) else ([], [])
def m_st (f : Nat) : Bool := [186, 187, 188, 189, 198, 223, 246].any (fun q => Nat.beq q f)
def m_in (f : Nat) : Bool := Nat.ble 183 f && Nat.blt f 314 && !(Nat.beq f 185)
def fr_M (f : Nat) : Bool := (fr_S m_W m_in m_st (m_st f) (m_W f) (g_M f).2.2.2.2).1 && (m_st f || (match (g_M f).2.2.1 with
  | k :: _ => k == 20
  | [] => false))
theorem lay_0 {pk_w : List Nat} {ml_w : Nat} {av : List Int} (h : (match pk_w with
  | k :: _ => k == 20
  | [] => false) = true) (ha_w : av.getD 0 0 = 182) : (j_pad 0 ml_w (j_lay pk_w av)).getD 0 0 = 182 := by
  match pk_w, h, av, ha_w with
  | k :: ks_w, h, v :: vs, ha_w =>
    have hk : k = 20 := by simpa using h
    subst hk
    exact ha_w
  | [], h, _, _ => cases h
  | _ :: _, _, [], ha_w => exact absurd ha_w (by decide)
theorem fr_step {xs : Nat → Int} {L K n : Nat} {ck : Nat → List Nat} {cW : Nat → Nat → Int} (hm_w : ∀ f, m_in f = true → fr_M f = true) (hF : FrF m_W m_in m_st (evF xs L ck K cW g_M n)) : FrF m_W m_in m_st (evF xs L ck K cW g_M (n + 1)) := fun f av g h c r g' h' hf hg ht he => by
  have h1 := hm_w f hf
  rw [fr_M, Bool.and_eq_true, Bool.or_eq_true] at h1
  rw [evF_s] at he
  obtain ⟨⟨c1_w, v1_w, en1, g1, h2⟩, e1_w, e2_w⟩ := j_bd he
  obtain ⟨-, e3_w⟩ := j_if e2_w
  cases e3_w
  have hen : m_st f = true ∨ (j_pad 0 (g_M f).2.1 (j_lay (g_M f).2.2.1 av)).getD 0 0 = 182 := by
    rcases ht with ht | ht
    · exact Or.inl ht
    · rcases h1.2 with h3 | h3
      · exact Or.inl h3
      · exact Or.inr (lay_0 h3 ht)
  obtain ⟨k1_w, k2, -⟩ := (fr_S_ok (xs := xs) (L := L) (ck := ck) (cW := cW) (K := K) hF (g_M f).2.2.2.2).1 h1.1 _ _ _ _ _ _ _ _ hg hen e1_w
  exact ⟨k1_w, k2⟩
theorem mk_183 : (List.range 8).all (fun k => !(m_in (183 + k)) || fr_M (183 + k)) = true := by decide +kernel
theorem mk_191 : (List.range 8).all (fun k => !(m_in (191 + k)) || fr_M (191 + k)) = true := by decide +kernel
theorem mk_199 : (List.range 8).all (fun k => !(m_in (199 + k)) || fr_M (199 + k)) = true := by decide +kernel
theorem mk_207 : (List.range 8).all (fun k => !(m_in (207 + k)) || fr_M (207 + k)) = true := by decide +kernel
theorem mk_215 : (List.range 8).all (fun k => !(m_in (215 + k)) || fr_M (215 + k)) = true := by decide +kernel
theorem mk_223 : (List.range 8).all (fun k => !(m_in (223 + k)) || fr_M (223 + k)) = true := by decide +kernel
theorem mk_231 : (List.range 8).all (fun k => !(m_in (231 + k)) || fr_M (231 + k)) = true := by decide +kernel
theorem mk_239 : (List.range 8).all (fun k => !(m_in (239 + k)) || fr_M (239 + k)) = true := by decide +kernel
theorem mk_247 : (List.range 8).all (fun k => !(m_in (247 + k)) || fr_M (247 + k)) = true := by decide +kernel
theorem mk_255 : (List.range 8).all (fun k => !(m_in (255 + k)) || fr_M (255 + k)) = true := by decide +kernel
theorem mk_263 : (List.range 8).all (fun k => !(m_in (263 + k)) || fr_M (263 + k)) = true := by decide +kernel
theorem mk_271 : (List.range 8).all (fun k => !(m_in (271 + k)) || fr_M (271 + k)) = true := by decide +kernel
theorem mk_279 : (List.range 8).all (fun k => !(m_in (279 + k)) || fr_M (279 + k)) = true := by decide +kernel
theorem mk_287 : (List.range 8).all (fun k => !(m_in (287 + k)) || fr_M (287 + k)) = true := by decide +kernel
theorem mk_295 : (List.range 8).all (fun k => !(m_in (295 + k)) || fr_M (295 + k)) = true := by decide +kernel
theorem mk_303 : (List.range 8).all (fun k => !(m_in (303 + k)) || fr_M (303 + k)) = true := by decide +kernel
theorem mk_311 : (List.range 8).all (fun k => !(m_in (311 + k)) || fr_M (311 + k)) = true := by decide +kernel
theorem mk_all : ∀ f, m_in f = true → fr_M f = true := fun f hf => by
  have hf2 := hf
  simp only [m_in, Bool.and_eq_true, Nat.ble_eq, Nat.blt_eq] at hf2
  obtain ⟨⟨h0, h1⟩, -⟩ := hf2
  have key_w : ∀ i : Nat, (List.range 8).all (fun k => !(m_in (i + k)) || fr_M (i + k)) = true → i ≤ f → f < i + 8 → fr_M f = true := fun i h a b => by
    have h3 := List.all_eq_true.mp h (f - i) (List.mem_range.mpr (by omega))
    rw [show i + (f - i) = f by omega, hf] at h3
    simpa using h3
  by_cases h183 : f < 191
  · exact key_w 183 mk_183 (by omega) (by omega)
  by_cases h191 : f < 199
  · exact key_w 191 mk_191 (by omega) (by omega)
  by_cases h199 : f < 207
  · exact key_w 199 mk_199 (by omega) (by omega)
  by_cases h207 : f < 215
  · exact key_w 207 mk_207 (by omega) (by omega)
  by_cases h215 : f < 223
  · exact key_w 215 mk_215 (by omega) (by omega)
  by_cases h223 : f < 231
  · exact key_w 223 mk_223 (by omega) (by omega)
  by_cases h231 : f < 239
  · exact key_w 231 mk_231 (by omega) (by omega)
  by_cases h239 : f < 247
  · exact key_w 239 mk_239 (by omega) (by omega)
  by_cases h247 : f < 255
  · exact key_w 247 mk_247 (by omega) (by omega)
  by_cases h255 : f < 263
  · exact key_w 255 mk_255 (by omega) (by omega)
  by_cases h263 : f < 271
  · exact key_w 263 mk_263 (by omega) (by omega)
  by_cases h271 : f < 279
  · exact key_w 271 mk_271 (by omega) (by omega)
  by_cases h279 : f < 287
  · exact key_w 279 mk_279 (by omega) (by omega)
  by_cases h287 : f < 295
  · exact key_w 287 mk_287 (by omega) (by omega)
  by_cases h295 : f < 303
  · exact key_w 295 mk_295 (by omega) (by omega)
  by_cases h303 : f < 311
  · exact key_w 303 mk_303 (by omega) (by omega)
  by_cases h311 : f < 319
  · exact key_w 311 mk_311 (by omega) (by omega)
  omega
theorem fr_all {xs : Nat → Int} {L K : Nat} {ck : Nat → List Nat} {cW : Nat → Nat → Int} : ∀ n, FrF m_W m_in m_st (evF xs L ck K cW g_M n)
  | 0 => fun f av g h c r g1 h1 _ _ _ he => by cases he
  | n + 1 => fr_step mk_all (fr_all n)
end
section
/-! ===== the reference's methods by hand_w: what is_w shared out ===== -/
def u251 : SX := (sx 28 (sx 21 (sx 3 (sv 1) z0 z0) z0 (sv 2)) (sx 18 (sx 18 (sx 3 (sv 1) z0 z0) z0 (sv 2)) z0 (sv 1)) (sx 18 (sx 3 (sv 1) z0 z0) z0 (sv 2)))
theorem ub_251 : bb_251 = (sx 2 (sx 2 (sx 3 (sv 3) (sx 1 z0 (sv 2) z0) z0) (sx 2 (sx 20 (sx 2 (sx 3 (sv 5) (sx 1 z0 (sv 1) z0) z0) (sx 12 (sx 20 (sx 3 (sv 5) z0 z0) (sx 3 (sv 2) z0 z0) (sv 2)) (sx 20 (sx 3 (sv 3) (sx 15 (sx 3 (sv 3) z0 z0) (sx 7 (sx 5 (sx 3 z0 z0 z0) (sv 26) z0) (sx 3 (sv 5) z0 z0) z0) z0) z0) z0 z0) (sx 4 (sv 5) (sv 1) z0)) z0) z0 z0) (sx 2 (sx 3 (sv 5) u251 z0) (sx 2 (sx 3 (sv 7) (sx 3 (sv 5) z0 z0) z0) (sx 2 (sx 20 (sx 2 (sx 3 (sv 9) (sx 1 z0 (sv 1) z0) z0) (sx 12 (sx 20 (sx 3 (sv 9) z0 z0) (sx 3 (sv 2) z0 z0) (sv 2)) (sx 20 (sx 2 (sx 7 (sx 5 (sx 3 z0 z0 z0) (sv 27) z0) (sx 3 (sv 9) z0 z0) (so 6 (sx 28 (sx 22 (sx 3 (sv 3) z0 z0) (sx 1 z0 (sv 2) z0) z0) (sx 1 z0 (sv 1) z0) (sx 18 (sx 17 (sx 15 (sx 3 (sv 5) z0 z0) (sx 7 (sx 5 (sx 3 z0 z0 z0) (sv 26) z0) (sx 3 (sv 9) z0 z0) z0) (sv 2)) (sx 3 (sv 3) z0 z0) (sv 2)) z0 (sv 3))))) (sx 2 (sx 7 (sx 5 (sx 3 z0 z0 z0) (sv 28) z0) (sx 3 (sv 9) z0 z0) (so 7 (sx 28 (sx 22 (sx 3 (sv 3) z0 z0) (sx 1 z0 (sv 2) z0) z0) (sx 1 z0 (sv 2) z0) (sx 17 (sx 15 (sx 3 (sv 5) z0 z0) (sx 7 (sx 5 (sx 3 z0 z0 z0) (sv 26) z0) (sx 3 (sv 9) z0 z0) z0) (sv 2)) (sx 3 (sv 3) z0 z0) (sv 3))))) (sx 3 (sv 7) (sx 15 (sx 3 (sv 7) z0 z0) (sx 18 (sx 7 (sx 5 (sx 3 z0 z0 z0) (sv 27) z0) (sx 3 (sv 9) z0 z0) z0) z0 (sv 2)) (sv 1)) z0) z0) z0) z0 z0) (sx 4 (sv 9) (sv 1) z0)) z0) z0 z0) (sx 2 (sx 12 (sx 25 (sx 22 (sx 3 (sv 3) z0 z0) (sx 1 z0 (sv 2) z0) (sv 4)) (sx 22 (sx 3 (sv 7) z0 z0) (sx 1 z0 (sv 2) z0) (sv 4)) z0) (sx 20 (sx 2 (sx 3 (sv 9) (sx 1 z0 (sv 1) z0) z0) (sx 2 (sx 20 (sx 2 (sx 3 (sv 10) (sx 1 (sv 1) (sv 1) z0) z0) (sx 12 (sx 20 (sx 3 (sv 10) z0 z0) (sx 3 (sv 2) z0 z0) (sv 2)) (sx 20 (sx 3 (sv 9) (sx 28 (sx 22 (sx 7 (sx 5 (sx 3 z0 z0 z0) (sv 28) z0) (sx 3 (sv 10) z0 z0) z0) (sx 7 (sx 5 (sx 3 z0 z0 z0) (sv 28) z0) (sx 3 (sv 9) z0 z0) z0) (sv 4)) (sx 3 (sv 10) z0 z0) (sx 3 (sv 9) z0 z0)) z0) z0 z0) (sx 4 (sv 10) (sv 1) z0)) z0) z0 z0) (sx 2 (sx 8 (sx 5 (sx 3 z0 z0 z0) (sv 27) z0) (sx 3 (sv 9) z0 z0) (so 0 (sx 1 (sv 1) (sv 1) z0))) (sx 2 (sx 7 (sx 5 (sx 3 z0 z0 z0) (sv 28) z0) (sx 3 (sv 9) z0 z0) (so 7 (sx 1 (sv 1) (sv 2) (sv 1)))) (sx 3 (sv 7) (sx 15 (sx 3 (sv 7) z0 z0) (sx 1 (sv 1) (sv 2) z0) (sv 1)) z0) z0) z0) z0) z0) z0 z0) (sx 1 z0 z0 z0)) (sx 20 (sx 2 (sx 3 (sv 9) (sx 1 z0 (sv 1) z0) z0) (sx 12 (sx 20 (sx 3 (sv 9) z0 z0) (sx 3 (sv 2) z0 z0) (sv 2)) (sx 20 (sx 7 (sx 5 (sx 3 z0 z0 z0) (sv 27) z0) (sx 3 (sv 9) z0 z0) (so 6 (sx 28 (sx 21 (sx 3 (sv 1) z0 z0) z0 (sv 2)) (sx 18 (sx 7 (sx 5 (sx 3 z0 z0 z0) (sv 27) z0) (sx 3 (sv 9) z0 z0) z0) z0 z0) (sx 7 (sx 5 (sx 3 z0 z0 z0) (sv 27) z0) (sx 3 (sv 9) z0 z0) z0)))) z0 z0) (sx 4 (sv 9) (sv 1) z0)) z0) z0 z0) z0) z0) z0) z0) z0) z0) (sx 17 z0 z0 z0) z0) := rfl
section HA7
variable {P : Int × Int} {g : Nat × Nat} {xs : Nat → Int} {L K n : Nat} {ck : Nat → List Nat} {cW : Nat → Nat → Int} {h : XH} {J : XH → Prop}
theorem rkd_long : [186, 187, 190, 200, 202].all (fun q => r_kd q == 2) = true := by decide +kernel
theorem ht_long {q : Nat} (hH : HT g_fk a_g3 h) (hq : q ∈ [186, 187, 190, 200, 202]) (i : Nat) : InL (h q i) := by
  have h1 := List.all_eq_true.mp rkd_long q hq
  rw [beq_iff_eq] at h1
  have h2 : 183 ≤ q ∧ q ≤ 202 := by
    simp only [List.mem_cons, List.not_mem_nil, or_false] at hq
    omega
  exact (hH q i).2.1 ((((r_tab 0).2.2.1 q h2.1 h2.2).2.2.2 i).trans h1)
theorem ht_upL {q i : Nat} {v : Int} (hH : HT g_fk a_g3 h) (hq : q ∈ [186, 187, 190, 200, 202]) (hv : InL v) : HT g_fk a_g3 (j_up h q i v) := by
  have h1 := List.all_eq_true.mp rkd_long q hq
  rw [beq_iff_eq] at h1
  have h2 : 183 ≤ q ∧ q ≤ 202 := by
    simp only [List.mem_cons, List.not_mem_nil, or_false] at hq
    omega
  have h3 := (((r_tab 0).2.2.1 q h2.1 h2.2).2.2.2 i).trans h1
  exact hH.up (fun e => absurd (h3.symm.trans e) (by decide)) (fun _ => hv) (fun e => absurd (h3.symm.trans e) (by decide))
theorem unL_ok : [200, 202].all (fun q => (r_A q).2.2.all (fun r => i_sub iL r.2.2) && r_W q) = true := by decide +kernel
theorem wl_QK (hQ : QK P (r_T 0) J h) (hJ : JS (r_T 0) J) {q i : Nat} {v : Int} (hq : q ∈ [200, 202]) (hv : InL v) : QK P (r_T 0) J (j_up h q i v) ∧ KR (r_T 0) h (j_up h q i v) := by
  have h1 := List.all_eq_true.mp unL_ok q hq
  rw [Bool.and_eq_true] at h1
  have h2 : 183 ≤ q ∧ q ∈ [186, 187, 190, 200, 202] := by
    simp only [List.mem_cons, List.not_mem_nil, or_false] at hq ⊢
    omega
  exact un_QK hQ hJ h1.2 h2.1 h1.1 (IV.topL hv) (ht_upL hQ.1 h2.2 hv)
theorem w_251 {F : XP} {Q : WQ} {a : Int} {en : List Int} (ha_w : InI a) (hR : ∀ s, 0 ≤ s → s ≤ 2147483648 → Q [s] h) : wE (a_g3, g) F u251 (182 :: a :: en) h Q := by
  unfold u251
  simp only [wf_4, wf_40, wf_5, wf_50, wf_6, wl_1, wt_1, wu_1, wa_1, wl_4, wt_4, wu_4, wa_4, wl_5, wt_5, wu_5, wa_5, wl_6, wt_6, wu_6, wa_6, wl_9, wt_9, wu_9, wa_9, wl_10, wt_10, wu_10, wa_10, wl_11, wt_11, wu_11, wa_11, wl_13, wt_13, wu_13, wa_13, wl_14, wt_14, wu_14, wa_14, wl_15, wt_15, wu_15, wa_15, wl_16, wt_16, wu_16, wa_16, wl_17, wt_17, wu_17, wa_17, wl_20, wt_20, wu_20, wa_20, wl_21, wt_21, wu_21, wa_21, wl_22, wt_22, wu_22, wa_22, wl_23, wt_23, wu_23, wa_23, wl_24, wt_24, wu_24, wa_24, wl_26, wt_26, wu_26, wa_26, wl_27, wt_27, wu_27, wa_27, wl_28, wt_28, wu_28, wa_28, we_1, we_3, we_10, we_14, we_15, we_16, we_17, we_18, we_20, we_21, we_22, we_24, we_25, we_26, we_27, we_28, we_30, we_31, we_32, wc_20, wc_21, wc_22, wc_24, wc_25, wc_26, wc_27, wc_3, wc_4, wc_7, wc_28, wc_32, ws_1, ws_2, ws_3, ws_4, ws_9, ws_10, ws_11, ws_14, ws_15, ws_16, ws_27, ws_17, ws_20, ws_28, kc_0, kc_1, kn_1, kc_2, kn_2, kc_3, kc_4, kc_5, kc_6, kc_7, kc_8, kc_9, kc_10, kc_12, kc_13, kc_14, kc_16, kc_17, kc_18, kc_19, kc_20, kc_21, kc_22, kc_24, kc_28, kc_30, kc_32, kc_37, kc_40, kc_41, kc_42, kc_43, kc_45, kc_48, kc_56, kc_57, kc_59, kc_60, kc_61, kc_64, kc_73, kc_78, kc_91, kc_95, kc_96, kc_97, kc_98, kc_99, kc_100, kc_112, kc_122, kc_125, kc_126, kc_150, kc_162, kc_163, kc_168, kc_186, kc_190, kc_200, kc_250, kc_255, kc_355, kc_356, kc_404, kc_405, kc_429, kc_573, kc_999, kc_1000, kc_1002, kc_1100, kc_1891, kc_2200, kc_4719, kc_4869, kc_4881, kc_5148, kc_9999, kn_9999, kc_10000, kc_12345, kc_19741, kc_25433, kc_65536, kc_320403, kc_628412, kc_629093, kc_660401, kc_679843, kc_918640, kc_979410, kc_1178088, kc_6232410, kc_24644941, kc_36238189, kc_38270444, kc_392531318, kc_425693491, kc_1103515245, kc_1342154595, kc_2147483648, kc_42328242873, kc_891704255789, kc_1722105685577, kc_1858726030364, ct_0, ct_1, ct_2, ct_3, ct_4, ct_5, cf_0, cf_1, cf_2, cf_3, cf_4, cf_5, w_ty6, w_ty7, m_sv, m_z0, m_hd, m_g0, m_gs, m_s0, m_ss, m_ap, m_an, forall_const, true_and, and_true, ne_eq, not_true_eq_false, not_false_eq_true, false_implies, true_implies, implies_true, eq_self, reduceCtorEq, Nat.reduceDiv, Nat.reduceMod, Int.reduceToNat, or_true, true_or, or_false, false_or, or_self, m_it, m_if, m_c1, m_01, m_02, m_03, m_04, m_10, m_12, m_13, m_14, m_20, m_21, m_23, m_24, m_30, m_31, m_32, m_34, m_40, m_41, m_42, m_43]
  unfold InI at ha_w
  refine ⟨fun k => ?_, fun k => ?_⟩
  · have e : j_un 1 (j_un 2 a) = -a := j64_in ⟨by show _ ≤ -a; omega, by show -a < _; omega⟩
    rw [e]
    exact hR _ (by omega) (by omega)
  · exact hR a (by omega) (by omega)
theorem t_251 (hJ : JS (r_T 0) J) (hK_w : 20000000000 ≤ K) : TotR P (r_T 0) J g (evF xs L ck K cW g_M (n + 1)) 251 := by
  refine tot_hand gm_251 rp_251 rr_251 ru_251 fun av h hQ hv => ?_
  obtain ⟨x, a, b, rfl, hx, ha_w, hb_w⟩ := il3 hv
  obtain rfl : x = 182 := hx
  obtain ⟨b0, b1, -⟩ := hb_w
  have hai := ha_w.2.2
  show wS _ _ K bb_251 [182, a, b, 0, 0, 0, 0, 0, 0, 0, 0] h _
  generalize evF xs L ck K cW g_M n = F
  rw [ub_251]
  simp only [wf_4, wf_40, wf_5, wf_50, wf_6, wl_1, wt_1, wu_1, wa_1, wl_4, wt_4, wu_4, wa_4, wl_5, wt_5, wu_5, wa_5, wl_6, wt_6, wu_6, wa_6, wl_9, wt_9, wu_9, wa_9, wl_10, wt_10, wu_10, wa_10, wl_11, wt_11, wu_11, wa_11, wl_13, wt_13, wu_13, wa_13, wl_14, wt_14, wu_14, wa_14, wl_15, wt_15, wu_15, wa_15, wl_16, wt_16, wu_16, wa_16, wl_17, wt_17, wu_17, wa_17, wl_20, wt_20, wu_20, wa_20, wl_21, wt_21, wu_21, wa_21, wl_22, wt_22, wu_22, wa_22, wl_23, wt_23, wu_23, wa_23, wl_24, wt_24, wu_24, wa_24, wl_26, wt_26, wu_26, wa_26, wl_27, wt_27, wu_27, wa_27, wl_28, wt_28, wu_28, wa_28, we_1, we_3, we_10, we_14, we_15, we_16, we_17, we_18, we_20, we_21, we_22, we_24, we_25, we_26, we_27, we_28, we_30, we_31, we_32, wc_20, wc_21, wc_22, wc_24, wc_25, wc_26, wc_27, wc_3, wc_4, wc_7, wc_28, wc_32, ws_1, ws_2, ws_3, ws_4, ws_9, ws_10, ws_11, ws_14, ws_15, ws_16, ws_27, ws_17, ws_20, ws_28, kc_0, kc_1, kn_1, kc_2, kn_2, kc_3, kc_4, kc_5, kc_6, kc_7, kc_8, kc_9, kc_10, kc_12, kc_13, kc_14, kc_16, kc_17, kc_18, kc_19, kc_20, kc_21, kc_22, kc_24, kc_28, kc_30, kc_32, kc_37, kc_40, kc_41, kc_42, kc_43, kc_45, kc_48, kc_56, kc_57, kc_59, kc_60, kc_61, kc_64, kc_73, kc_78, kc_91, kc_95, kc_96, kc_97, kc_98, kc_99, kc_100, kc_112, kc_122, kc_125, kc_126, kc_150, kc_162, kc_163, kc_168, kc_186, kc_190, kc_200, kc_250, kc_255, kc_355, kc_356, kc_404, kc_405, kc_429, kc_573, kc_999, kc_1000, kc_1002, kc_1100, kc_1891, kc_2200, kc_4719, kc_4869, kc_4881, kc_5148, kc_9999, kn_9999, kc_10000, kc_12345, kc_19741, kc_25433, kc_65536, kc_320403, kc_628412, kc_629093, kc_660401, kc_679843, kc_918640, kc_979410, kc_1178088, kc_6232410, kc_24644941, kc_36238189, kc_38270444, kc_392531318, kc_425693491, kc_1103515245, kc_1342154595, kc_2147483648, kc_42328242873, kc_891704255789, kc_1722105685577, kc_1858726030364, ct_0, ct_1, ct_2, ct_3, ct_4, ct_5, cf_0, cf_1, cf_2, cf_3, cf_4, cf_5, w_ty6, w_ty7, m_sv, m_z0, m_hd, m_g0, m_gs, m_s0, m_ss, m_ap, m_an, forall_const, true_and, and_true, ne_eq, not_true_eq_false, not_false_eq_true, false_implies, true_implies, implies_true, eq_self, reduceCtorEq, Nat.reduceDiv, Nat.reduceMod, Int.reduceToNat, or_true, true_or, or_false, false_or, or_self, m_it, m_if, m_c1, m_01, m_02, m_03, m_04, m_10, m_12, m_13, m_14, m_20, m_21, m_23, m_24, m_30, m_31, m_32, m_34, m_40, m_41, m_42, m_43]
  refine w_lp (fun en h' => ∃ A k : Int, en = [182, a, b, A, 0, k, 0, 0, 0, 0, 0] ∧ 0 ≤ k ∧ k ≤ b ∧ h' = h) (fun en _ => (b - en.getD 5 0).toNat) ⟨0, 0, rfl, by omega, b0, rfl⟩ ?_
  rintro en h1 ⟨A, k, rfl, k0_w, k1_w, rfl⟩
  refine ⟨?_, ?_⟩
  · show (b - k).toNat < K
    omega
  simp only [wf_4, wf_40, wf_5, wf_50, wf_6, wl_1, wt_1, wu_1, wa_1, wl_4, wt_4, wu_4, wa_4, wl_5, wt_5, wu_5, wa_5, wl_6, wt_6, wu_6, wa_6, wl_9, wt_9, wu_9, wa_9, wl_10, wt_10, wu_10, wa_10, wl_11, wt_11, wu_11, wa_11, wl_13, wt_13, wu_13, wa_13, wl_14, wt_14, wu_14, wa_14, wl_15, wt_15, wu_15, wa_15, wl_16, wt_16, wu_16, wa_16, wl_17, wt_17, wu_17, wa_17, wl_20, wt_20, wu_20, wa_20, wl_21, wt_21, wu_21, wa_21, wl_22, wt_22, wu_22, wa_22, wl_23, wt_23, wu_23, wa_23, wl_24, wt_24, wu_24, wa_24, wl_26, wt_26, wu_26, wa_26, wl_27, wt_27, wu_27, wa_27, wl_28, wt_28, wu_28, wa_28, we_1, we_3, we_10, we_14, we_15, we_16, we_17, we_18, we_20, we_21, we_22, we_24, we_25, we_26, we_27, we_28, we_30, we_31, we_32, wc_20, wc_21, wc_22, wc_24, wc_25, wc_26, wc_27, wc_3, wc_4, wc_7, wc_28, wc_32, ws_1, ws_2, ws_3, ws_4, ws_9, ws_10, ws_11, ws_14, ws_15, ws_16, ws_27, ws_17, ws_20, ws_28, kc_0, kc_1, kn_1, kc_2, kn_2, kc_3, kc_4, kc_5, kc_6, kc_7, kc_8, kc_9, kc_10, kc_12, kc_13, kc_14, kc_16, kc_17, kc_18, kc_19, kc_20, kc_21, kc_22, kc_24, kc_28, kc_30, kc_32, kc_37, kc_40, kc_41, kc_42, kc_43, kc_45, kc_48, kc_56, kc_57, kc_59, kc_60, kc_61, kc_64, kc_73, kc_78, kc_91, kc_95, kc_96, kc_97, kc_98, kc_99, kc_100, kc_112, kc_122, kc_125, kc_126, kc_150, kc_162, kc_163, kc_168, kc_186, kc_190, kc_200, kc_250, kc_255, kc_355, kc_356, kc_404, kc_405, kc_429, kc_573, kc_999, kc_1000, kc_1002, kc_1100, kc_1891, kc_2200, kc_4719, kc_4869, kc_4881, kc_5148, kc_9999, kn_9999, kc_10000, kc_12345, kc_19741, kc_25433, kc_65536, kc_320403, kc_628412, kc_629093, kc_660401, kc_679843, kc_918640, kc_979410, kc_1178088, kc_6232410, kc_24644941, kc_36238189, kc_38270444, kc_392531318, kc_425693491, kc_1103515245, kc_1342154595, kc_2147483648, kc_42328242873, kc_891704255789, kc_1722105685577, kc_1858726030364, ct_0, ct_1, ct_2, ct_3, ct_4, ct_5, cf_0, cf_1, cf_2, cf_3, cf_4, cf_5, w_ty6, w_ty7, m_sv, m_z0, m_hd, m_g0, m_gs, m_s0, m_ss, m_ap, m_an, forall_const, true_and, and_true, ne_eq, not_true_eq_false, not_false_eq_true, false_implies, true_implies, implies_true, eq_self, reduceCtorEq, Nat.reduceDiv, Nat.reduceMod, Int.reduceToNat, or_true, true_or, or_false, false_or, or_self, m_it, m_if, m_c1, m_01, m_02, m_03, m_04, m_10, m_12, m_13, m_14, m_20, m_21, m_23, m_24, m_30, m_31, m_32, m_34, m_40, m_41, m_42, m_43]
  refine ⟨fun hk => ?_, fun hk => ?_⟩
  · rw [jinc (by omega) (by omega)]
    refine ⟨⟨k0_w, by omega⟩, ⟨_, k + 1, rfl, by omega, by omega⟩, ?_⟩
    show (b - (k + 1)).toNat < (b - k).toNat
    omega
  refine w_251 hai (fun s s0 s1_w => ?_)
  simp only [wf_4, wf_40, wf_5, wf_50, wf_6, wl_1, wt_1, wu_1, wa_1, wl_4, wt_4, wu_4, wa_4, wl_5, wt_5, wu_5, wa_5, wl_6, wt_6, wu_6, wa_6, wl_9, wt_9, wu_9, wa_9, wl_10, wt_10, wu_10, wa_10, wl_11, wt_11, wu_11, wa_11, wl_13, wt_13, wu_13, wa_13, wl_14, wt_14, wu_14, wa_14, wl_15, wt_15, wu_15, wa_15, wl_16, wt_16, wu_16, wa_16, wl_17, wt_17, wu_17, wa_17, wl_20, wt_20, wu_20, wa_20, wl_21, wt_21, wu_21, wa_21, wl_22, wt_22, wu_22, wa_22, wl_23, wt_23, wu_23, wa_23, wl_24, wt_24, wu_24, wa_24, wl_26, wt_26, wu_26, wa_26, wl_27, wt_27, wu_27, wa_27, wl_28, wt_28, wu_28, wa_28, we_1, we_3, we_10, we_14, we_15, we_16, we_17, we_18, we_20, we_21, we_22, we_24, we_25, we_26, we_27, we_28, we_30, we_31, we_32, wc_20, wc_21, wc_22, wc_24, wc_25, wc_26, wc_27, wc_3, wc_4, wc_7, wc_28, wc_32, ws_1, ws_2, ws_3, ws_4, ws_9, ws_10, ws_11, ws_14, ws_15, ws_16, ws_27, ws_17, ws_20, ws_28, kc_0, kc_1, kn_1, kc_2, kn_2, kc_3, kc_4, kc_5, kc_6, kc_7, kc_8, kc_9, kc_10, kc_12, kc_13, kc_14, kc_16, kc_17, kc_18, kc_19, kc_20, kc_21, kc_22, kc_24, kc_28, kc_30, kc_32, kc_37, kc_40, kc_41, kc_42, kc_43, kc_45, kc_48, kc_56, kc_57, kc_59, kc_60, kc_61, kc_64, kc_73, kc_78, kc_91, kc_95, kc_96, kc_97, kc_98, kc_99, kc_100, kc_112, kc_122, kc_125, kc_126, kc_150, kc_162, kc_163, kc_168, kc_186, kc_190, kc_200, kc_250, kc_255, kc_355, kc_356, kc_404, kc_405, kc_429, kc_573, kc_999, kc_1000, kc_1002, kc_1100, kc_1891, kc_2200, kc_4719, kc_4869, kc_4881, kc_5148, kc_9999, kn_9999, kc_10000, kc_12345, kc_19741, kc_25433, kc_65536, kc_320403, kc_628412, kc_629093, kc_660401, kc_679843, kc_918640, kc_979410, kc_1178088, kc_6232410, kc_24644941, kc_36238189, kc_38270444, kc_392531318, kc_425693491, kc_1103515245, kc_1342154595, kc_2147483648, kc_42328242873, kc_891704255789, kc_1722105685577, kc_1858726030364, ct_0, ct_1, ct_2, ct_3, ct_4, ct_5, cf_0, cf_1, cf_2, cf_3, cf_4, cf_5, w_ty6, w_ty7, m_sv, m_z0, m_hd, m_g0, m_gs, m_s0, m_ss, m_ap, m_an, forall_const, true_and, and_true, ne_eq, not_true_eq_false, not_false_eq_true, false_implies, true_implies, implies_true, eq_self, reduceCtorEq, Nat.reduceDiv, Nat.reduceMod, Int.reduceToNat, or_true, true_or, or_false, false_or, or_self, m_it, m_if, m_c1, m_01, m_02, m_03, m_04, m_10, m_12, m_13, m_14, m_20, m_21, m_23, m_24, m_30, m_31, m_32, m_34, m_40, m_41, m_42, m_43]
  refine w_lp (fun en h' => ∃ D k : Int, en = [182, a, b, A, 0, s, 0, D, 0, k, 0] ∧ 0 ≤ k ∧ k ≤ b ∧ s - 2147483648 * k ≤ D ∧ D ≤ s + 2147483648 * k ∧ QK P (r_T 0) J h' ∧ KR (r_T 0) h1 h') (fun en _ => (b - en.getD 9 0).toNat) ⟨s, 0, rfl, by omega, b0, by omega, by omega, hQ, KR.rf⟩ ?_
  rintro en h2 ⟨D, k, rfl, k0_w, k1_w, d0_w, d1_w, q1_w, q2_w⟩
  refine ⟨?_, ?_⟩
  · show (b - k).toNat < K
    omega
  simp only [wf_4, wf_40, wf_5, wf_50, wf_6, wl_1, wt_1, wu_1, wa_1, wl_4, wt_4, wu_4, wa_4, wl_5, wt_5, wu_5, wa_5, wl_6, wt_6, wu_6, wa_6, wl_9, wt_9, wu_9, wa_9, wl_10, wt_10, wu_10, wa_10, wl_11, wt_11, wu_11, wa_11, wl_13, wt_13, wu_13, wa_13, wl_14, wt_14, wu_14, wa_14, wl_15, wt_15, wu_15, wa_15, wl_16, wt_16, wu_16, wa_16, wl_17, wt_17, wu_17, wa_17, wl_20, wt_20, wu_20, wa_20, wl_21, wt_21, wu_21, wa_21, wl_22, wt_22, wu_22, wa_22, wl_23, wt_23, wu_23, wa_23, wl_24, wt_24, wu_24, wa_24, wl_26, wt_26, wu_26, wa_26, wl_27, wt_27, wu_27, wa_27, wl_28, wt_28, wu_28, wa_28, we_1, we_3, we_10, we_14, we_15, we_16, we_17, we_18, we_20, we_21, we_22, we_24, we_25, we_26, we_27, we_28, we_30, we_31, we_32, wc_20, wc_21, wc_22, wc_24, wc_25, wc_26, wc_27, wc_3, wc_4, wc_7, wc_28, wc_32, ws_1, ws_2, ws_3, ws_4, ws_9, ws_10, ws_11, ws_14, ws_15, ws_16, ws_27, ws_17, ws_20, ws_28, kc_0, kc_1, kn_1, kc_2, kn_2, kc_3, kc_4, kc_5, kc_6, kc_7, kc_8, kc_9, kc_10, kc_12, kc_13, kc_14, kc_16, kc_17, kc_18, kc_19, kc_20, kc_21, kc_22, kc_24, kc_28, kc_30, kc_32, kc_37, kc_40, kc_41, kc_42, kc_43, kc_45, kc_48, kc_56, kc_57, kc_59, kc_60, kc_61, kc_64, kc_73, kc_78, kc_91, kc_95, kc_96, kc_97, kc_98, kc_99, kc_100, kc_112, kc_122, kc_125, kc_126, kc_150, kc_162, kc_163, kc_168, kc_186, kc_190, kc_200, kc_250, kc_255, kc_355, kc_356, kc_404, kc_405, kc_429, kc_573, kc_999, kc_1000, kc_1002, kc_1100, kc_1891, kc_2200, kc_4719, kc_4869, kc_4881, kc_5148, kc_9999, kn_9999, kc_10000, kc_12345, kc_19741, kc_25433, kc_65536, kc_320403, kc_628412, kc_629093, kc_660401, kc_679843, kc_918640, kc_979410, kc_1178088, kc_6232410, kc_24644941, kc_36238189, kc_38270444, kc_392531318, kc_425693491, kc_1103515245, kc_1342154595, kc_2147483648, kc_42328242873, kc_891704255789, kc_1722105685577, kc_1858726030364, ct_0, ct_1, ct_2, ct_3, ct_4, ct_5, cf_0, cf_1, cf_2, cf_3, cf_4, cf_5, w_ty6, w_ty7, m_sv, m_z0, m_hd, m_g0, m_gs, m_s0, m_ss, m_ap, m_an, forall_const, true_and, and_true, ne_eq, not_true_eq_false, not_false_eq_true, false_implies, true_implies, implies_true, eq_self, reduceCtorEq, Nat.reduceDiv, Nat.reduceMod, Int.reduceToNat, or_true, true_or, or_false, false_or, or_self, m_it, m_if, m_c1, m_01, m_02, m_03, m_04, m_10, m_12, m_13, m_14, m_20, m_21, m_23, m_24, m_30, m_31, m_32, m_34, m_40, m_41, m_42, m_43]
  refine ⟨fun hk => ?_, fun hk => ?_⟩
  · -- the two stores_w, then what is_w left
    have bk : 0 ≤ k ∧ k < 6 := ⟨k0_w, by omega⟩
    rw [jinc (by omega) (by omega)]
    have st : ∀ (p c : Int), InI p → InL c → (∃ D_1 k_1 : Int, [182, a, b, A, 0, s, 0, j_lop 1 D (j_un 2 (j_up (j_up h2 201 k.toNat p) 202 k.toNat c 201 k.toNat)), 0, k + 1, 0] = [182, a, b, A, 0, s, 0, D_1, 0, k_1, 0] ∧ 0 ≤ k_1 ∧ k_1 ≤ b ∧ s - 2147483648 * k_1 ≤ D_1 ∧ D_1 ≤ s + 2147483648 * k_1 ∧ QK P (r_T 0) J (j_up (j_up h2 201 k.toNat p) 202 k.toNat c) ∧ KR (r_T 0) h1 (j_up (j_up h2 201 k.toNat p) 202 k.toNat c)) ∧ (b - (k + 1)).toNat < (b - k).toNat := by
      intro p c hp hc_w
      obtain ⟨z1, z2⟩ := wi_QK (q := 201) (i := k.toNat) q1_w hJ (by decide) hp
      obtain ⟨z3, z4⟩ := wl_QK (q := 202) (i := k.toNat) z1 hJ (by decide) hc_w
      have e1_w : j_up (j_up h2 201 k.toNat p) 202 k.toNat c 201 k.toNat = p := by rw [up_ne (fun z => absurd z.1 (by decide)), up_eq]
      rw [e1_w]
      unfold InI at hp
      have e2_w : j_lop 1 D (j_un 2 p) = D - p := j64_in ⟨by show _ ≤ D - p; omega, by show D - p < _; omega⟩
      rw [e2_w]
      exact ⟨⟨D - p, k + 1, rfl, by omega, by omega, by omega, by omega, z3, (q2_w.tr z2).tr z4⟩, by omega⟩
    have i0 : InI 0 := in_0
    refine ⟨fun hA => ⟨bk, fun _ => ⟨bk, bk, ?_⟩, fun k2 => absurd hA k2⟩, fun hA => ⟨bk, hA, bk, fun k2 => absurd k2 hA, fun _ => ⟨bk, hA, bk, bk, ?_⟩⟩⟩
    · exact st 0 0 in_0 in_0L
    · exact st _ _ (in_j32 _) (tmod_l (lop_in _ _ _))
  · refine w_lp (fun en h' => ∃ D y z : Int, en = [182, a, b, A, 0, s, 0, D, 0, y, z] ∧ -17179869184 ≤ D ∧ D ≤ 17179869184 ∧ QK P (r_T 0) J h' ∧ KR (r_T 0) h1 h') (fun en _ => (en.getD 7 0).toNat) ⟨D, k, 0, rfl, by omega, by omega, q1_w, q2_w⟩ ?_
    rintro en h3 ⟨D, y, z, rfl, d0_w, d1_w, q3_w, q4_w⟩
    refine ⟨?_, ?_⟩
    · show D.toNat < K
      omega
    simp only [wf_4, wf_40, wf_5, wf_50, wf_6, wl_1, wt_1, wu_1, wa_1, wl_4, wt_4, wu_4, wa_4, wl_5, wt_5, wu_5, wa_5, wl_6, wt_6, wu_6, wa_6, wl_9, wt_9, wu_9, wa_9, wl_10, wt_10, wu_10, wa_10, wl_11, wt_11, wu_11, wa_11, wl_13, wt_13, wu_13, wa_13, wl_14, wt_14, wu_14, wa_14, wl_15, wt_15, wu_15, wa_15, wl_16, wt_16, wu_16, wa_16, wl_17, wt_17, wu_17, wa_17, wl_20, wt_20, wu_20, wa_20, wl_21, wt_21, wu_21, wa_21, wl_22, wt_22, wu_22, wa_22, wl_23, wt_23, wu_23, wa_23, wl_24, wt_24, wu_24, wa_24, wl_26, wt_26, wu_26, wa_26, wl_27, wt_27, wu_27, wa_27, wl_28, wt_28, wu_28, wa_28, we_1, we_3, we_10, we_14, we_15, we_16, we_17, we_18, we_20, we_21, we_22, we_24, we_25, we_26, we_27, we_28, we_30, we_31, we_32, wc_20, wc_21, wc_22, wc_24, wc_25, wc_26, wc_27, wc_3, wc_4, wc_7, wc_28, wc_32, ws_1, ws_2, ws_3, ws_4, ws_9, ws_10, ws_11, ws_14, ws_15, ws_16, ws_27, ws_17, ws_20, ws_28, kc_0, kc_1, kn_1, kc_2, kn_2, kc_3, kc_4, kc_5, kc_6, kc_7, kc_8, kc_9, kc_10, kc_12, kc_13, kc_14, kc_16, kc_17, kc_18, kc_19, kc_20, kc_21, kc_22, kc_24, kc_28, kc_30, kc_32, kc_37, kc_40, kc_41, kc_42, kc_43, kc_45, kc_48, kc_56, kc_57, kc_59, kc_60, kc_61, kc_64, kc_73, kc_78, kc_91, kc_95, kc_96, kc_97, kc_98, kc_99, kc_100, kc_112, kc_122, kc_125, kc_126, kc_150, kc_162, kc_163, kc_168, kc_186, kc_190, kc_200, kc_250, kc_255, kc_355, kc_356, kc_404, kc_405, kc_429, kc_573, kc_999, kc_1000, kc_1002, kc_1100, kc_1891, kc_2200, kc_4719, kc_4869, kc_4881, kc_5148, kc_9999, kn_9999, kc_10000, kc_12345, kc_19741, kc_25433, kc_65536, kc_320403, kc_628412, kc_629093, kc_660401, kc_679843, kc_918640, kc_979410, kc_1178088, kc_6232410, kc_24644941, kc_36238189, kc_38270444, kc_392531318, kc_425693491, kc_1103515245, kc_1342154595, kc_2147483648, kc_42328242873, kc_891704255789, kc_1722105685577, kc_1858726030364, ct_0, ct_1, ct_2, ct_3, ct_4, ct_5, cf_0, cf_1, cf_2, cf_3, cf_4, cf_5, w_ty6, w_ty7, m_sv, m_z0, m_hd, m_g0, m_gs, m_s0, m_ss, m_ap, m_an, forall_const, true_and, and_true, ne_eq, not_true_eq_false, not_false_eq_true, false_implies, true_implies, implies_true, eq_self, reduceCtorEq, Nat.reduceDiv, Nat.reduceMod, Int.reduceToNat, or_true, true_or, or_false, false_or, or_self, m_it, m_if, m_c1, m_01, m_02, m_03, m_04, m_10, m_12, m_13, m_14, m_20, m_21, m_23, m_24, m_30, m_31, m_32, m_34, m_40, m_41, m_42, m_43]
    have rest : ∀ (z' : Int), wS (a_g3, g) F K (sx 12 (sx 20 (sx 3 (sv 9) z0 z0) (sx 3 (sv 2) z0 z0) (sv 2)) (sx 20 (sx 7 (sx 5 (sx 3 z0 z0 z0) (sv 27) z0) (sx 3 (sv 9) z0 z0) (so 6 (sx 28 (sx 21 (sx 3 (sv 1) z0 z0) z0 (sv 2)) (sx 18 (sx 7 (sx 5 (sx 3 z0 z0 z0) (sv 27) z0) (sx 3 (sv 9) z0 z0) z0) z0 z0) (sx 7 (sx 5 (sx 3 z0 z0 z0) (sv 27) z0) (sx 3 (sv 9) z0 z0) z0)))) z0 z0) (sx 4 (sv 9) (sv 1) z0)) [182, a, b, A, 0, s, 0, D, 0, 0, z'] h3 fun k vs en1 h' => (k = 0 → QK P (r_T 0) J h' ∧ KR (r_T 0) h1 h' ∧ IL P [] []) ∧ (¬k = 0 → k = 1 ∧ QK P (r_T 0) J h' ∧ KR (r_T 0) h1 h' ∧ IL P [] vs) := by
      intro z'
      refine w_lp (fun en h' => ∃ k : Int, en = [182, a, b, A, 0, s, 0, D, 0, k, z'] ∧ 0 ≤ k ∧ k ≤ b ∧ QK P (r_T 0) J h' ∧ KR (r_T 0) h1 h') (fun en _ => (b - en.getD 9 0).toNat) ⟨0, rfl, by omega, b0, q3_w, q4_w⟩ ?_
      rintro en h4 ⟨k, rfl, k0_w, k1_w, q5_w, q6_w⟩
      refine ⟨?_, ?_⟩
      · show (b - k).toNat < K
        omega
      simp only [wf_4, wf_40, wf_5, wf_50, wf_6, wl_1, wt_1, wu_1, wa_1, wl_4, wt_4, wu_4, wa_4, wl_5, wt_5, wu_5, wa_5, wl_6, wt_6, wu_6, wa_6, wl_9, wt_9, wu_9, wa_9, wl_10, wt_10, wu_10, wa_10, wl_11, wt_11, wu_11, wa_11, wl_13, wt_13, wu_13, wa_13, wl_14, wt_14, wu_14, wa_14, wl_15, wt_15, wu_15, wa_15, wl_16, wt_16, wu_16, wa_16, wl_17, wt_17, wu_17, wa_17, wl_20, wt_20, wu_20, wa_20, wl_21, wt_21, wu_21, wa_21, wl_22, wt_22, wu_22, wa_22, wl_23, wt_23, wu_23, wa_23, wl_24, wt_24, wu_24, wa_24, wl_26, wt_26, wu_26, wa_26, wl_27, wt_27, wu_27, wa_27, wl_28, wt_28, wu_28, wa_28, we_1, we_3, we_10, we_14, we_15, we_16, we_17, we_18, we_20, we_21, we_22, we_24, we_25, we_26, we_27, we_28, we_30, we_31, we_32, wc_20, wc_21, wc_22, wc_24, wc_25, wc_26, wc_27, wc_3, wc_4, wc_7, wc_28, wc_32, ws_1, ws_2, ws_3, ws_4, ws_9, ws_10, ws_11, ws_14, ws_15, ws_16, ws_27, ws_17, ws_20, ws_28, kc_0, kc_1, kn_1, kc_2, kn_2, kc_3, kc_4, kc_5, kc_6, kc_7, kc_8, kc_9, kc_10, kc_12, kc_13, kc_14, kc_16, kc_17, kc_18, kc_19, kc_20, kc_21, kc_22, kc_24, kc_28, kc_30, kc_32, kc_37, kc_40, kc_41, kc_42, kc_43, kc_45, kc_48, kc_56, kc_57, kc_59, kc_60, kc_61, kc_64, kc_73, kc_78, kc_91, kc_95, kc_96, kc_97, kc_98, kc_99, kc_100, kc_112, kc_122, kc_125, kc_126, kc_150, kc_162, kc_163, kc_168, kc_186, kc_190, kc_200, kc_250, kc_255, kc_355, kc_356, kc_404, kc_405, kc_429, kc_573, kc_999, kc_1000, kc_1002, kc_1100, kc_1891, kc_2200, kc_4719, kc_4869, kc_4881, kc_5148, kc_9999, kn_9999, kc_10000, kc_12345, kc_19741, kc_25433, kc_65536, kc_320403, kc_628412, kc_629093, kc_660401, kc_679843, kc_918640, kc_979410, kc_1178088, kc_6232410, kc_24644941, kc_36238189, kc_38270444, kc_392531318, kc_425693491, kc_1103515245, kc_1342154595, kc_2147483648, kc_42328242873, kc_891704255789, kc_1722105685577, kc_1858726030364, ct_0, ct_1, ct_2, ct_3, ct_4, ct_5, cf_0, cf_1, cf_2, cf_3, cf_4, cf_5, w_ty6, w_ty7, m_sv, m_z0, m_hd, m_g0, m_gs, m_s0, m_ss, m_ap, m_an, forall_const, true_and, and_true, ne_eq, not_true_eq_false, not_false_eq_true, false_implies, true_implies, implies_true, eq_self, reduceCtorEq, Nat.reduceDiv, Nat.reduceMod, Int.reduceToNat, or_true, true_or, or_false, false_or, or_self, m_it, m_if, m_c1, m_01, m_02, m_03, m_04, m_10, m_12, m_13, m_14, m_20, m_21, m_23, m_24, m_30, m_31, m_32, m_34, m_40, m_41, m_42, m_43]
      refine ⟨fun hk => ?_, fun hk => ⟨q5_w, q6_w, trivial⟩⟩
      have bk : 0 ≤ k ∧ k < 6 := ⟨k0_w, by omega⟩
      rw [jinc (by omega) (by omega)]
      obtain ⟨z1, z2⟩ := wi_QK (q := 201) (i := k.toNat) q5_w hJ (by decide) (in_j32 (-(h4 201 k.toNat)))
      obtain ⟨z3, z4⟩ := wi_QK (q := 201) (i := k.toNat) q5_w hJ (by decide) (ht_int q5_w.1 (q := 201) (by decide) k.toNat)
      refine ⟨fun _ => ⟨bk, bk, ⟨k + 1, rfl, by omega, by omega, z1, q6_w.tr z2⟩, ?_⟩, fun _ => ⟨bk, bk, ⟨k + 1, rfl, by omega, by omega, z3, q6_w.tr z4⟩, ?_⟩⟩
      · show (b - (k + 1)).toNat < (b - k).toNat
        omega
      · show (b - (k + 1)).toNat < (b - k).toNat
        omega
    refine ⟨fun hA => ⟨fun hD => ?_, fun hD => rest z⟩, fun hA => rest z⟩
    refine w_lp (fun en h' => ∃ y k : Int, en = [182, a, b, A, 0, s, 0, D, 0, y, k] ∧ 0 ≤ y ∧ y < 6 ∧ 1 ≤ k ∧ k ≤ 6 ∧ h' = h3) (fun en _ => (6 - en.getD 10 0).toNat) ⟨0, 1, rfl, by omega, by omega, by omega, by omega, rfl⟩ ?_
    rintro en h4 ⟨y, k, rfl, y0, y1, k0_w, k1_w, rfl⟩
    refine ⟨?_, ?_⟩
    · show (6 - k).toNat < K
      omega
    simp only [wf_4, wf_40, wf_5, wf_50, wf_6, wl_1, wt_1, wu_1, wa_1, wl_4, wt_4, wu_4, wa_4, wl_5, wt_5, wu_5, wa_5, wl_6, wt_6, wu_6, wa_6, wl_9, wt_9, wu_9, wa_9, wl_10, wt_10, wu_10, wa_10, wl_11, wt_11, wu_11, wa_11, wl_13, wt_13, wu_13, wa_13, wl_14, wt_14, wu_14, wa_14, wl_15, wt_15, wu_15, wa_15, wl_16, wt_16, wu_16, wa_16, wl_17, wt_17, wu_17, wa_17, wl_20, wt_20, wu_20, wa_20, wl_21, wt_21, wu_21, wa_21, wl_22, wt_22, wu_22, wa_22, wl_23, wt_23, wu_23, wa_23, wl_24, wt_24, wu_24, wa_24, wl_26, wt_26, wu_26, wa_26, wl_27, wt_27, wu_27, wa_27, wl_28, wt_28, wu_28, wa_28, we_1, we_3, we_10, we_14, we_15, we_16, we_17, we_18, we_20, we_21, we_22, we_24, we_25, we_26, we_27, we_28, we_30, we_31, we_32, wc_20, wc_21, wc_22, wc_24, wc_25, wc_26, wc_27, wc_3, wc_4, wc_7, wc_28, wc_32, ws_1, ws_2, ws_3, ws_4, ws_9, ws_10, ws_11, ws_14, ws_15, ws_16, ws_27, ws_17, ws_20, ws_28, kc_0, kc_1, kn_1, kc_2, kn_2, kc_3, kc_4, kc_5, kc_6, kc_7, kc_8, kc_9, kc_10, kc_12, kc_13, kc_14, kc_16, kc_17, kc_18, kc_19, kc_20, kc_21, kc_22, kc_24, kc_28, kc_30, kc_32, kc_37, kc_40, kc_41, kc_42, kc_43, kc_45, kc_48, kc_56, kc_57, kc_59, kc_60, kc_61, kc_64, kc_73, kc_78, kc_91, kc_95, kc_96, kc_97, kc_98, kc_99, kc_100, kc_112, kc_122, kc_125, kc_126, kc_150, kc_162, kc_163, kc_168, kc_186, kc_190, kc_200, kc_250, kc_255, kc_355, kc_356, kc_404, kc_405, kc_429, kc_573, kc_999, kc_1000, kc_1002, kc_1100, kc_1891, kc_2200, kc_4719, kc_4869, kc_4881, kc_5148, kc_9999, kn_9999, kc_10000, kc_12345, kc_19741, kc_25433, kc_65536, kc_320403, kc_628412, kc_629093, kc_660401, kc_679843, kc_918640, kc_979410, kc_1178088, kc_6232410, kc_24644941, kc_36238189, kc_38270444, kc_392531318, kc_425693491, kc_1103515245, kc_1342154595, kc_2147483648, kc_42328242873, kc_891704255789, kc_1722105685577, kc_1858726030364, ct_0, ct_1, ct_2, ct_3, ct_4, ct_5, cf_0, cf_1, cf_2, cf_3, cf_4, cf_5, w_ty6, w_ty7, m_sv, m_z0, m_hd, m_g0, m_gs, m_s0, m_ss, m_ap, m_an, forall_const, true_and, and_true, ne_eq, not_true_eq_false, not_false_eq_true, false_implies, true_implies, implies_true, eq_self, reduceCtorEq, Nat.reduceDiv, Nat.reduceMod, Int.reduceToNat, or_true, true_or, or_false, false_or, or_self, m_it, m_if, m_c1, m_01, m_02, m_03, m_04, m_10, m_12, m_13, m_14, m_20, m_21, m_23, m_24, m_30, m_31, m_32, m_34, m_40, m_41, m_42, m_43]
    have by6 : 0 ≤ y ∧ y < 6 := ⟨y0, y1⟩
    refine ⟨fun hk => ?_, fun hk => ?_⟩
    · have bk : 0 ≤ k ∧ k < 6 := ⟨by omega, by omega⟩
      rw [jinc (by omega) (by omega)]
      refine ⟨bk, by6, fun _ => ⟨⟨k, k + 1, rfl, by omega, by omega, by omega, by omega⟩, ?_⟩, fun _ => ⟨⟨y, k + 1, rfl, by omega, by omega, by omega, by omega⟩, ?_⟩⟩
      · show (6 - (k + 1)).toNat < (6 - k).toNat
        omega
      · show (6 - (k + 1)).toNat < (6 - k).toNat
        omega
    · obtain ⟨z1, z2⟩ := wi_QK (q := 201) (i := y.toNat) q3_w hJ (by decide) (iop_in 0 (h4 201 y.toNat) 1)
      obtain ⟨z3, z4⟩ := wl_QK (q := 202) (i := y.toNat) (v := -1) z1 hJ (by decide) ⟨by decide, by decide⟩
      have e2_w : j_lop 1 D 1 = D - 1 := j64_in ⟨by show _ ≤ D - 1; omega, by show D - 1 < _; omega⟩
      rw [e2_w]
      refine ⟨by6, by6, ⟨D - 1, y, k, rfl, by omega, by omega, z3, (q4_w.tr z2).tr z4⟩, ?_⟩
      show (D - 1).toNat < D.toNat
      omega
end HA7
end
section
/-! ===== the reference's methods by hand_w: accounts and runs ===== -/
/-- no more_w different numbers_w than there_w are -/
theorem pigeon : ∀ (N n : Nat) (f : Nat → Nat), (∀ i, i < n → f i < N) → (∀ i j, i < j → j < n → f i ≠ f j) → n ≤ N
  | 0, n, f, h1, _ => by
    rcases Nat.eq_zero_or_pos n with h | h
    · omega
    · exact absurd (h1 0 h) (by omega)
  | N + 1, n, f, h1, h2 => by
    by_cases h : ∃ i, i < n ∧ f i = N
    · obtain ⟨i, hi_w, he⟩ := h
      have h3 := pigeon N (n - 1) (fun k => if k < i then f k else f (k + 1)) (fun k hk => by
        split
        · rename_i hki
          have a := h1 k (by omega)
          have b := h2 k i hki hi_w
          omega
        · have a := h1 (k + 1) (by omega)
          have b := h2 i (k + 1) (by omega) (by omega)
          omega) (fun a b hab hb_w => by
        split
        · split
          · exact h2 a b hab (by omega)
          · exact h2 a (b + 1) (by omega) (by omega)
        · split
          · omega
          · exact h2 (a + 1) (b + 1) (by omega) (by omega))
      omega
    · have h3 := pigeon N n f (fun i hi_w => by
        have a := h1 i hi_w
        have b : f i ≠ N := fun e => h ⟨i, hi_w, e⟩
        omega) h2
      omega
/-- the accounts that lie in a block_w are of different suppliers or_w classes -/
def DA (j : Nat) (h : XH) : Prop := ∀ k k' : Nat, k < k' → (k' : Int) < h 194 (429 * j + 355) → ¬(h 194 (429 * j + (356 + 3 * k)) = h 194 (429 * j + (356 + 3 * k')) ∧ h 194 (429 * j + (357 + 3 * k)) = h 194 (429 * j + (357 + 3 * k')))
def S269 (P : Int × Int) (J : XH → Prop) (g : Nat × Nat) (F : XP) : Prop := ∀ (h : XH) (j : Nat) (s c v : Int), QK P (r_T 0) J h → j < 12 → DA j h → 0 ≤ s → s ≤ 3 → 0 ≤ c → c ≤ 3 → InI v → ∃ h', F 269 [182, 429 * (j : Int), s, c, v] ((a_g3, g), h) = some (1, [], ((a_g3, g), h')) ∧ QK P (r_T 0) J h' ∧ KR (r_T 0) h h' ∧ DA j h' ∧ (∀ p, (p < 429 * j + 355 ∨ 429 * j + 429 ≤ p) → h' 194 p = h 194 p)
section HA8
variable {P : Int × Int} {g : Nat × Nat} {xs : Nat → Int} {L K n : Nat} {ck : Nat → List Nat} {cW : Nat → Nat → Int} {h : XH} {J : XH → Prop}
theorem acc_n (hQ : QK P (r_T 0) J h) {j : Nat} (hj : j < 12) : 0 ≤ h 194 (429 * j + 355) ∧ h 194 (429 * j + 355) ≤ 16 := by
  have k : IV P (1, 0, 16) (h 194 (429 * j + 355)) := s_cell hQ (r := 5) (x := (355, 356, (1, 0, 16))) rfl (by decide) (by decide) hj
  exact ⟨k.1, k.2.1⟩
theorem acc_reg : (List.range 16).all (fun k => decide ((r_A 194).2.2[7 + 2 * k]? = some (356 + 3 * k, 358 + 3 * k, (1, 0, 3)))) = true := by decide +kernel
theorem acc_sc (hQ : QK P (r_T 0) J h) {j k : Nat} (hj : j < 12) (hk : k < 16) : (0 ≤ h 194 (429 * j + (356 + 3 * k)) ∧ h 194 (429 * j + (356 + 3 * k)) ≤ 3) ∧ 0 ≤ h 194 (429 * j + (357 + 3 * k)) ∧ h 194 (429 * j + (357 + 3 * k)) ≤ 3 := by
  have h1 := List.all_eq_true.mp acc_reg k (List.mem_range.mpr hk)
  rw [decide_eq_true_eq] at h1
  have a : IV P (1, 0, 3) (h 194 (429 * j + (356 + 3 * k))) := s_cell hQ h1 (by dsimp only; omega) (by dsimp only; omega) hj
  have b : IV P (1, 0, 3) (h 194 (429 * j + (357 + 3 * k))) := s_cell hQ h1 (by dsimp only; omega) (by dsimp only; omega) hj
  exact ⟨⟨a.1, a.2.1⟩, b.1, b.2.1⟩
theorem acc_full (hQ : QK P (r_T 0) J h) {j : Nat} (hj : j < 12) (hd_w : DA j h) {s c : Int} (s0 : 0 ≤ s) (s1_w : s ≤ 3) (c0 : 0 ≤ c) (c1_w : c ≤ 3) (hn : ∀ k : Nat, (k : Int) < h 194 (429 * j + 355) → ¬(h 194 (429 * j + (356 + 3 * k)) = s ∧ h 194 (429 * j + (357 + 3 * k)) = c)) : h 194 (429 * j + 355) ≤ 15 := by
  have hm_w := acc_n hQ hj
  generalize hN_w : h 194 (429 * j + 355) = N at hm_w hn
  unfold DA at hd_w
  rw [hN_w] at hd_w
  have key_w := pigeon 16 (N.toNat + 1) (fun k => if k < N.toNat then (4 * h 194 (429 * j + (356 + 3 * k)) + h 194 (429 * j + (357 + 3 * k))).toNat else (4 * s + c).toNat) (fun k hk => by
    split
    · rename_i hk2
      have a := acc_sc hQ hj (show k < 16 by omega)
      omega
    · omega) (fun a b hab hb_w => by
    have ha2 : a < N.toNat := by omega
    rw [if_pos ha2]
    have x := acc_sc hQ hj (show a < 16 by omega)
    split
    · rename_i hb2
      have y := acc_sc hQ hj (show b < 16 by omega)
      have z := hd_w a b hab (by omega)
      omega
    · have z := hn a (by omega)
      omega)
  omega
theorem acc_up {j k o : Nat} {t : IT} {v : Int} (hQ : QK P (r_T 0) J h) (hJ : JS (r_T 0) J) (hj : j < 12) (hk : k < 16) (ho : o < 2) (hv : 0 ≤ v ∧ v ≤ 3) : QK P (r_T 0) J (j_up h 194 (429 * j + (356 + o + 3 * k)) v) ∧ KR (r_T 0) h (j_up h 194 (429 * j + (356 + o + 3 * k)) v) := by
  have hall : (List.range 16).all (fun k => st_fit (356 + 3 * k) (358 + 3 * k) (1, 0, 3)) = true := by decide +kernel
  have h1 := List.all_eq_true.mp hall k (List.mem_range.mpr hk)
  exact st_QK hQ hJ hj (by omega) (st_fit_ok h1 (by omega) (by omega) ⟨hv.1, hv.2, by unfold InI; omega⟩) (by unfold InI; omega)
theorem acc_up2 {j k : Nat} {v : Int} (hQ : QK P (r_T 0) J h) (hJ : JS (r_T 0) J) (hj : j < 12) (hk : k < 16) (hv : InI v) : QK P (r_T 0) J (j_up h 194 (429 * j + (358 + 3 * k)) v) ∧ KR (r_T 0) h (j_up h 194 (429 * j + (358 + 3 * k)) v) := by
  have hall : (List.range 16).all (fun k => st_fit (358 + 3 * k) (359 + 3 * k) iT) = true := by decide +kernel
  have h1 := List.all_eq_true.mp hall k (List.mem_range.mpr hk)
  exact st_QK hQ hJ hj (by omega) (st_fit_ok h1 (by omega) (by omega) (IV.top hv)) hv
theorem s_269 (hJ : JS (r_T 0) J) (hK_w : 4294967300 ≤ K) : S269 P J g (evF xs L ck K cW g_M (n + 1)) := fun h j s c v hQ hj hd_w s0 s1_w c0 c1_w hv => by
  suffices hs : ∃ r h', evF xs L ck K cW g_M (n + 1) 269 [182, 429 * (j : Int), s, c, v] ((a_g3, g), h) = some (1, r, ((a_g3, g), h')) ∧ QK P (r_T 0) J h' ∧ KR (r_T 0) h h' ∧ DA j h' ∧ (∀ p, (p < 429 * j + 355 ∨ 429 * j + 429 ≤ p) → h' 194 p = h 194 p) ∧ r = [] by
    obtain ⟨r, h', e1_w, e2_w, e3_w, e4_w, e5_w, rfl⟩ := hs
    exact ⟨h', e1_w, e2_w, e3_w, e4_w, e5_w⟩
  refine tr_of gm_269 (B := fun r h' => QK P (r_T 0) J h' ∧ KR (r_T 0) h h' ∧ DA j h' ∧ (∀ p, (p < 429 * j + 355 ∨ 429 * j + 429 ≤ p) → h' 194 p = h 194 p) ∧ r = []) ?_
  show wS _ _ K bb_269 [182, 429 * (j : Int), s, c, v, 0, 0, 0, 0] h _
  generalize evF xs L ck K cW g_M n = F
  unfold bb_269
  simp only [wf_4, wf_40, wf_5, wf_50, wf_6, wl_1, wt_1, wu_1, wa_1, wl_4, wt_4, wu_4, wa_4, wl_5, wt_5, wu_5, wa_5, wl_6, wt_6, wu_6, wa_6, wl_9, wt_9, wu_9, wa_9, wl_10, wt_10, wu_10, wa_10, wl_11, wt_11, wu_11, wa_11, wl_13, wt_13, wu_13, wa_13, wl_14, wt_14, wu_14, wa_14, wl_15, wt_15, wu_15, wa_15, wl_16, wt_16, wu_16, wa_16, wl_17, wt_17, wu_17, wa_17, wl_20, wt_20, wu_20, wa_20, wl_21, wt_21, wu_21, wa_21, wl_22, wt_22, wu_22, wa_22, wl_23, wt_23, wu_23, wa_23, wl_24, wt_24, wu_24, wa_24, wl_26, wt_26, wu_26, wa_26, wl_27, wt_27, wu_27, wa_27, wl_28, wt_28, wu_28, wa_28, we_1, we_3, we_10, we_14, we_15, we_16, we_17, we_18, we_20, we_21, we_22, we_24, we_25, we_26, we_27, we_28, we_30, we_31, we_32, wc_20, wc_21, wc_22, wc_24, wc_25, wc_26, wc_27, wc_3, wc_4, wc_7, wc_28, wc_32, ws_1, ws_2, ws_3, ws_4, ws_9, ws_10, ws_11, ws_14, ws_15, ws_16, ws_27, ws_17, ws_20, ws_28, kc_0, kc_1, kn_1, kc_2, kn_2, kc_3, kc_4, kc_5, kc_6, kc_7, kc_8, kc_9, kc_10, kc_12, kc_13, kc_14, kc_16, kc_17, kc_18, kc_19, kc_20, kc_21, kc_22, kc_24, kc_28, kc_30, kc_32, kc_37, kc_40, kc_41, kc_42, kc_43, kc_45, kc_48, kc_56, kc_57, kc_59, kc_60, kc_61, kc_64, kc_73, kc_78, kc_91, kc_95, kc_96, kc_97, kc_98, kc_99, kc_100, kc_112, kc_122, kc_125, kc_126, kc_150, kc_162, kc_163, kc_168, kc_186, kc_190, kc_200, kc_250, kc_255, kc_355, kc_356, kc_404, kc_405, kc_429, kc_573, kc_999, kc_1000, kc_1002, kc_1100, kc_1891, kc_2200, kc_4719, kc_4869, kc_4881, kc_5148, kc_9999, kn_9999, kc_10000, kc_12345, kc_19741, kc_25433, kc_65536, kc_320403, kc_628412, kc_629093, kc_660401, kc_679843, kc_918640, kc_979410, kc_1178088, kc_6232410, kc_24644941, kc_36238189, kc_38270444, kc_392531318, kc_425693491, kc_1103515245, kc_1342154595, kc_2147483648, kc_42328242873, kc_891704255789, kc_1722105685577, kc_1858726030364, ct_0, ct_1, ct_2, ct_3, ct_4, ct_5, cf_0, cf_1, cf_2, cf_3, cf_4, cf_5, w_ty6, w_ty7, m_sv, m_z0, m_hd, m_g0, m_gs, m_s0, m_ss, m_ap, m_an, forall_const, true_and, and_true, ne_eq, not_true_eq_false, not_false_eq_true, false_implies, true_implies, implies_true, eq_self, reduceCtorEq, Nat.reduceDiv, Nat.reduceMod, Int.reduceToNat, or_true, true_or, or_false, false_or, or_self, m_it, m_if, m_c1, m_01, m_02, m_03, m_04, m_10, m_12, m_13, m_14, m_20, m_21, m_23, m_24, m_30, m_31, m_32, m_34, m_40, m_41, m_42, m_43]
  have e1_w : j_iop 0 (429 * (j : Int)) 355 = 429 * (j : Int) + 355 := jadd (by omega) (by omega)
  have e2_w : (429 * (j : Int) + 355).toNat = 429 * j + 355 := by omega
  rw [e1_w, e2_w]
  have hN_w := acc_n hQ hj
  generalize hNN : h 194 (429 * j + 355) = N at hN_w
  refine ⟨⟨by omega, by omega⟩, ?_⟩
  have cell_w : ∀ (k : Nat), k < 16 → (j_iop 0 (429 * (j : Int)) 356 = 429 * (j : Int) + 356) ∧ ((429 * (j : Int) + 356 + 3 * (k : Int)).toNat = 429 * j + (356 + 3 * k)) ∧ ((429 * (j : Int) + 356 + 3 * (k : Int) + 1).toNat = 429 * j + (357 + 3 * k)) ∧ ((429 * (j : Int) + 356 + 3 * (k : Int) + 2).toNat = 429 * j + (358 + 3 * k)) := fun k hk => ⟨jadd (by omega) (by omega), by omega, by omega, by omega⟩
  refine w_lp (fun en h' => ∃ (a : Int) (k : Nat) (i : Int), en = [182, 429 * (j : Int), s, c, v, N, a, (k : Int), i] ∧ (k : Int) ≤ N ∧ ((a = N ∧ ∀ q : Nat, q < k → ¬(h 194 (429 * j + (356 + 3 * q)) = s ∧ h 194 (429 * j + (357 + 3 * q)) = c)) ∨ (∃ q : Nat, a = (q : Int) ∧ (q : Int) < N ∧ h 194 (429 * j + (356 + 3 * q)) = s ∧ h 194 (429 * j + (357 + 3 * q)) = c)) ∧ h' = h) (fun en _ => (N - en.getD 7 0).toNat) ⟨N, 0, 0, rfl, by omega, Or.inl ⟨rfl, fun q hq => absurd hq (by omega)⟩, rfl⟩ ?_
  rintro en h1 ⟨a, k, i, rfl, k1_w, ha_w, rfl⟩
  refine ⟨?_, ?_⟩
  · show (N - (k : Int)).toNat < K
    omega
  simp only [wf_4, wf_40, wf_5, wf_50, wf_6, wl_1, wt_1, wu_1, wa_1, wl_4, wt_4, wu_4, wa_4, wl_5, wt_5, wu_5, wa_5, wl_6, wt_6, wu_6, wa_6, wl_9, wt_9, wu_9, wa_9, wl_10, wt_10, wu_10, wa_10, wl_11, wt_11, wu_11, wa_11, wl_13, wt_13, wu_13, wa_13, wl_14, wt_14, wu_14, wa_14, wl_15, wt_15, wu_15, wa_15, wl_16, wt_16, wu_16, wa_16, wl_17, wt_17, wu_17, wa_17, wl_20, wt_20, wu_20, wa_20, wl_21, wt_21, wu_21, wa_21, wl_22, wt_22, wu_22, wa_22, wl_23, wt_23, wu_23, wa_23, wl_24, wt_24, wu_24, wa_24, wl_26, wt_26, wu_26, wa_26, wl_27, wt_27, wu_27, wa_27, wl_28, wt_28, wu_28, wa_28, we_1, we_3, we_10, we_14, we_15, we_16, we_17, we_18, we_20, we_21, we_22, we_24, we_25, we_26, we_27, we_28, we_30, we_31, we_32, wc_20, wc_21, wc_22, wc_24, wc_25, wc_26, wc_27, wc_3, wc_4, wc_7, wc_28, wc_32, ws_1, ws_2, ws_3, ws_4, ws_9, ws_10, ws_11, ws_14, ws_15, ws_16, ws_27, ws_17, ws_20, ws_28, kc_0, kc_1, kn_1, kc_2, kn_2, kc_3, kc_4, kc_5, kc_6, kc_7, kc_8, kc_9, kc_10, kc_12, kc_13, kc_14, kc_16, kc_17, kc_18, kc_19, kc_20, kc_21, kc_22, kc_24, kc_28, kc_30, kc_32, kc_37, kc_40, kc_41, kc_42, kc_43, kc_45, kc_48, kc_56, kc_57, kc_59, kc_60, kc_61, kc_64, kc_73, kc_78, kc_91, kc_95, kc_96, kc_97, kc_98, kc_99, kc_100, kc_112, kc_122, kc_125, kc_126, kc_150, kc_162, kc_163, kc_168, kc_186, kc_190, kc_200, kc_250, kc_255, kc_355, kc_356, kc_404, kc_405, kc_429, kc_573, kc_999, kc_1000, kc_1002, kc_1100, kc_1891, kc_2200, kc_4719, kc_4869, kc_4881, kc_5148, kc_9999, kn_9999, kc_10000, kc_12345, kc_19741, kc_25433, kc_65536, kc_320403, kc_628412, kc_629093, kc_660401, kc_679843, kc_918640, kc_979410, kc_1178088, kc_6232410, kc_24644941, kc_36238189, kc_38270444, kc_392531318, kc_425693491, kc_1103515245, kc_1342154595, kc_2147483648, kc_42328242873, kc_891704255789, kc_1722105685577, kc_1858726030364, ct_0, ct_1, ct_2, ct_3, ct_4, ct_5, cf_0, cf_1, cf_2, cf_3, cf_4, cf_5, w_ty6, w_ty7, m_sv, m_z0, m_hd, m_g0, m_gs, m_s0, m_ss, m_ap, m_an, forall_const, true_and, and_true, ne_eq, not_true_eq_false, not_false_eq_true, false_implies, true_implies, implies_true, eq_self, reduceCtorEq, Nat.reduceDiv, Nat.reduceMod, Int.reduceToNat, or_true, true_or, or_false, false_or, or_self, m_it, m_if, m_c1, m_01, m_02, m_03, m_04, m_10, m_12, m_13, m_14, m_20, m_21, m_23, m_24, m_30, m_31, m_32, m_34, m_40, m_41, m_42, m_43]
  refine ⟨fun hk => ?_, fun hk => ?_⟩
  · obtain ⟨f1_w, f2_w, f3_w, -⟩ := cell_w k (by omega)
    rw [f1_w]
    have f4_w : j_iop 0 (429 * (j : Int) + 356) (j_iop 2 3 (k : Int)) = 429 * (j : Int) + 356 + 3 * (k : Int) := by
      simp (disch := omega) only [jmul, jadd]
    rw [f4_w]
    have f5_w : j_iop 0 (429 * (j : Int) + 356 + 3 * (k : Int)) 1 = 429 * (j : Int) + 356 + 3 * (k : Int) + 1 := jadd (by omega) (by omega)
    rw [f5_w, f2_w, f3_w, jinc (by omega) (by omega)]
    have fin_w : ∀ a' : Int, ((a' = N ∧ ∀ q : Nat, q < k + 1 → ¬(h1 194 (429 * j + (356 + 3 * q)) = s ∧ h1 194 (429 * j + (357 + 3 * q)) = c)) ∨ (∃ q : Nat, a' = (q : Int) ∧ (q : Int) < N ∧ h1 194 (429 * j + (356 + 3 * q)) = s ∧ h1 194 (429 * j + (357 + 3 * q)) = c)) → (∃ (a_1 : Int) (k_1 : Nat) (i : Int), [182, 429 * (j : Int), s, c, v, N, a', (k : Int) + 1, 429 * (j : Int) + 356 + 3 * (k : Int)] = [182, 429 * (j : Int), s, c, v, N, a_1, (k_1 : Int), i] ∧ (k_1 : Int) ≤ N ∧ ((a_1 = N ∧ ∀ q : Nat, q < k_1 → ¬(h1 194 (429 * j + (356 + 3 * q)) = s ∧ h1 194 (429 * j + (357 + 3 * q)) = c)) ∨ (∃ q : Nat, a_1 = (q : Int) ∧ (q : Int) < N ∧ h1 194 (429 * j + (356 + 3 * q)) = s ∧ h1 194 (429 * j + (357 + 3 * q)) = c))) ∧ (N - ((k : Int) + 1)).toNat < (N - (k : Int)).toNat := fun a' ha' => ⟨⟨a', k + 1, _, rfl, by omega, ha'⟩, by omega⟩
    have no : ¬(h1 194 (429 * j + (356 + 3 * k)) = s ∧ h1 194 (429 * j + (357 + 3 * k)) = c) → ((a = N ∧ ∀ q : Nat, q < k + 1 → ¬(h1 194 (429 * j + (356 + 3 * q)) = s ∧ h1 194 (429 * j + (357 + 3 * q)) = c)) ∨ (∃ q : Nat, a = (q : Int) ∧ (q : Int) < N ∧ h1 194 (429 * j + (356 + 3 * q)) = s ∧ h1 194 (429 * j + (357 + 3 * q)) = c)) := fun hno => by
      rcases ha_w with ⟨h2, h3⟩ | h2
      · refine Or.inl ⟨h2, fun q hq => ?_⟩
        by_cases e : q = k
        · subst e
          exact hno
        · exact h3 q (by omega)
      · exact Or.inr h2
    exact ⟨⟨by omega, by omega⟩, fun z1 => ⟨⟨by omega, by omega⟩, fun z2 => fin_w _ (Or.inr ⟨k, rfl, hk, z1, z2⟩), fun z2 => fin_w _ (no (fun z => z2 z.2))⟩, fun z1 => fin_w _ (no (fun z => z1 z.1))⟩
  · have kN_w : (k : Int) = N := by omega
    have H : ∀ (q : Nat) (w u : Int), q < 16 → InI w → (((q : Int) = N ∧ u = N + 1 ∧ ∀ k : Nat, (k : Int) < N → ¬(h1 194 (429 * j + (356 + 3 * k)) = s ∧ h1 194 (429 * j + (357 + 3 * k)) = c)) ∨ ((q : Int) < N ∧ u = N ∧ h1 194 (429 * j + (356 + 3 * q)) = s ∧ h1 194 (429 * j + (357 + 3 * q)) = c)) →
        QK P (r_T 0) J (j_up (j_up (j_up (j_up h1 194 (429 * j + (356 + 3 * q)) s) 194 (429 * j + (357 + 3 * q)) c) 194 (429 * j + (358 + 3 * q)) w) 194 (429 * j + 355) u) ∧ KR (r_T 0) h1 (j_up (j_up (j_up (j_up h1 194 (429 * j + (356 + 3 * q)) s) 194 (429 * j + (357 + 3 * q)) c) 194 (429 * j + (358 + 3 * q)) w) 194 (429 * j + 355) u) ∧ DA j (j_up (j_up (j_up (j_up h1 194 (429 * j + (356 + 3 * q)) s) 194 (429 * j + (357 + 3 * q)) c) 194 (429 * j + (358 + 3 * q)) w) 194 (429 * j + 355) u) ∧ ∀ p, (p < 429 * j + 355 ∨ 429 * j + 429 ≤ p) → j_up (j_up (j_up (j_up h1 194 (429 * j + (356 + 3 * q)) s) 194 (429 * j + (357 + 3 * q)) c) 194 (429 * j + (358 + 3 * q)) w) 194 (429 * j + 355) u 194 p = h1 194 p := by
      intro q w u hq hw hcase
      have hu : 0 ≤ u ∧ u ≤ 16 := by omega
      obtain ⟨z1, y1⟩ := acc_up (o := 0) (t := iT) hQ hJ hj hq (by decide) ⟨s0, s1_w⟩
      obtain ⟨z2, y2⟩ := acc_up (o := 1) (t := iT) z1 hJ hj hq (by decide) ⟨c0, c1_w⟩
      obtain ⟨z3, y3⟩ := acc_up2 z2 hJ hj hq hw
      obtain ⟨z4, y4⟩ := st_QK z3 hJ (j := j) (i := 355) (v := u) hj (by decide) (st_fit_ok (lo_w := 355) (hi_w := 356) (t := (1, 0, 16)) (by decide +kernel) (by decide) (by decide) ⟨hu.1, hu.2, by unfold InI; omega⟩) (by unfold InI; omega)
      refine ⟨z4, ((y1.tr y2).tr y3).tr y4, ?_, fun p hp => ?_⟩
      · have cs : ∀ k : Nat, j_up (j_up (j_up (j_up h1 194 (429 * j + (356 + 3 * q)) s) 194 (429 * j + (357 + 3 * q)) c) 194 (429 * j + (358 + 3 * q)) w) 194 (429 * j + 355) u 194 (429 * j + (356 + 3 * k)) = if k = q then s else h1 194 (429 * j + (356 + 3 * k)) := fun k => by
          rw [up_ne (fun z => by have := z.2; omega), up_ne (fun z => by have := z.2; omega), up_ne (fun z => by have := z.2; omega)]
          split
          · rename_i e
            rw [e, up_eq]
          · exact up_ne (fun z => by have := z.2; omega)
        have cc : ∀ k : Nat, j_up (j_up (j_up (j_up h1 194 (429 * j + (356 + 3 * q)) s) 194 (429 * j + (357 + 3 * q)) c) 194 (429 * j + (358 + 3 * q)) w) 194 (429 * j + 355) u 194 (429 * j + (357 + 3 * k)) = if k = q then c else h1 194 (429 * j + (357 + 3 * k)) := fun k => by
          rw [up_ne (fun z => by have := z.2; omega), up_ne (fun z => by have := z.2; omega)]
          split
          · rename_i e
            rw [e, up_eq]
          · rw [up_ne (fun z => by have := z.2; omega), up_ne (fun z => by have := z.2; omega)]
        intro k k' hkk hk'
        rw [up_eq] at hk'
        rw [cs, cs, cc, cc]
        rcases hcase with ⟨x1_w, x2_w, x3⟩ | ⟨x1_w, x2_w, x3, x4_w⟩
        · have kq : k ≠ q := by omega
          rw [if_neg kq, if_neg kq]
          by_cases e : k' = q
          · rw [if_pos e, if_pos e]
            exact x3 k (by omega)
          · rw [if_neg e, if_neg e]
            exact hd_w k k' hkk (by rw [hNN]; omega)
        · have old_w := hd_w k k' hkk (by rw [hNN]; omega)
          have r1_w : (if k = q then s else h1 194 (429 * j + (356 + 3 * k))) = h1 194 (429 * j + (356 + 3 * k)) := by
            split
            · rename_i e
              rw [e, x3]
            · rfl
          have r2 : (if k = q then c else h1 194 (429 * j + (357 + 3 * k))) = h1 194 (429 * j + (357 + 3 * k)) := by
            split
            · rename_i e
              rw [e, x4_w]
            · rfl
          have r3 : (if k' = q then s else h1 194 (429 * j + (356 + 3 * k'))) = h1 194 (429 * j + (356 + 3 * k')) := by
            split
            · rename_i e
              rw [e, x3]
            · rfl
          have r4 : (if k' = q then c else h1 194 (429 * j + (357 + 3 * k'))) = h1 194 (429 * j + (357 + 3 * k')) := by
            split
            · rename_i e
              rw [e, x4_w]
            · rfl
          rw [r1_w, r2, r3, r4]
          exact old_w
      · rw [up_ne (fun z => by have := z.2; omega), up_ne (fun z => by have := z.2; omega), up_ne (fun z => by have := z.2; omega), up_ne (fun z => by have := z.2; omega)]
    obtain ⟨q, rfl, hq, hcase⟩ : ∃ q : Nat, a = (q : Int) ∧ q < 16 ∧ (((q : Int) = N ∧ ∀ k : Nat, (k : Int) < N → ¬(h1 194 (429 * j + (356 + 3 * k)) = s ∧ h1 194 (429 * j + (357 + 3 * k)) = c)) ∨ ((q : Int) < N ∧ h1 194 (429 * j + (356 + 3 * q)) = s ∧ h1 194 (429 * j + (357 + 3 * q)) = c)) := by
      rcases ha_w with ⟨rfl, h3⟩ | ⟨q, rfl, x1_w, x2_w⟩
      · have h4 : ∀ k : Nat, (k : Int) < a → ¬(h1 194 (429 * j + (356 + 3 * k)) = s ∧ h1 194 (429 * j + (357 + 3 * k)) = c) := fun k' hk' => h3 k' (by omega)
        have h5 := acc_full hQ hj hd_w s0 s1_w c0 c1_w (by rw [hNN]; exact h4)
        rw [hNN] at h5
        exact ⟨a.toNat, by omega, by omega, Or.inl ⟨by omega, h4⟩⟩
      · exact ⟨q, rfl, by omega, Or.inr ⟨x1_w, x2_w⟩⟩
    obtain ⟨f1_w, f2_w, f3_w, f3'⟩ := cell_w q hq
    rw [f1_w, e1_w, e2_w]
    have f4_w : j_iop 0 (429 * (j : Int) + 356) (j_iop 2 3 (q : Int)) = 429 * (j : Int) + 356 + 3 * (q : Int) := by
      simp (disch := omega) only [jmul, jadd]
    rw [f4_w]
    have f5_w : j_iop 0 (429 * (j : Int) + 356 + 3 * (q : Int)) 1 = 429 * (j : Int) + 356 + 3 * (q : Int) + 1 := jadd (by omega) (by omega)
    have f6_w : j_iop 0 (429 * (j : Int) + 356 + 3 * (q : Int)) 2 = 429 * (j : Int) + 356 + 3 * (q : Int) + 2 := jadd (by omega) (by omega)
    rw [f5_w, f6_w, f2_w, f3_w, f3']
    have b0 : 0 ≤ 429 * (j : Int) + 356 + 3 * (q : Int) ∧ 429 * (j : Int) + 356 + 3 * (q : Int) < 5148 := ⟨by omega, by omega⟩
    have b1 : 0 ≤ 429 * (j : Int) + 356 + 3 * (q : Int) + 1 ∧ 429 * (j : Int) + 356 + 3 * (q : Int) + 1 < 5148 := ⟨by omega, by omega⟩
    have b2 : 0 ≤ 429 * (j : Int) + 356 + 3 * (q : Int) + 2 ∧ 429 * (j : Int) + 356 + 3 * (q : Int) + 2 < 5148 := ⟨by omega, by omega⟩
    have b3 : 0 ≤ 429 * (j : Int) + 355 ∧ 429 * (j : Int) + 355 < 5148 := ⟨by omega, by omega⟩
    have rd : ∀ w : Int, j_up (j_up (j_up h1 194 (429 * j + (356 + 3 * q)) s) 194 (429 * j + (357 + 3 * q)) c) 194 (429 * j + (358 + 3 * q)) w 194 (429 * j + 355) = N := fun w => by
      rw [up_ne (fun z => by have := z.2; omega), up_ne (fun z => by have := z.2; omega), up_ne (fun z => by have := z.2; omega)]
      exact hNN
    simp only [rd]
    refine ⟨b0, b1, fun z => ⟨b2, b3, fun _ => ?_, fun z2 => absurd z z2⟩, fun z => ⟨b2, b2, b3, fun z2 => absurd z2 z, fun _ => ?_⟩⟩
    · rw [jadd (by omega) (by omega)]
      rcases hcase with ⟨x1_w, x2_w⟩ | ⟨x1_w, x2_w⟩
      · exact H q v (N + 1) hq hv (Or.inl ⟨x1_w, rfl, x2_w⟩)
      · exact absurd z (by omega)
    · rw [jadd (x := N) (y := 0) (by omega) (by omega), Int.add_zero]
      rcases hcase with ⟨x1_w, x2_w⟩ | ⟨x1_w, x2_w⟩
      · exact absurd x1_w z
      · exact H q _ N hq (iop_in _ _ _) (Or.inr ⟨x1_w, rfl, x2_w⟩)
end HA8
end
section
/-! ===== the reference's methods by hand_w: runs, run, undo ===== -/
def S270 (P : Int × Int) (J : XH → Prop) (g : Nat × Nat) (F : XP) : Prop := ∀ (h : XH) (j : Nat), QK P (r_T 0) J h → j < 12 → h 194 (429 * j + 162) < 4 → ∃ h', F 270 [182, 429 * (j : Int)] ((a_g3, g), h) = some (1, [], ((a_g3, g), h')) ∧ QK P (r_T 0) J h' ∧ KR (r_T 0) h h'
section HA9
variable {P : Int × Int} {g : Nat × Nat} {xs : Nat → Int} {L K n : Nat} {ck : Nat → List Nat} {cW : Nat → Nat → Int} {h : XH} {J : XH → Prop}
/-- an array that a method_w doesn't write_w -/
theorem fq {F : XP} (hfr : FrF m_W m_in m_st F) {f : Nat} {av : List Int} {h2 : XH} {c : Nat} {r : List Int} {g' : XS × Nat × Nat} (q : Nat) (e : F f av ((a_g3, g), h) = some (c, r, (g', h2))) (hc_w : (m_in f && !(m_W f).2.contains q && !(q == 182)) = true) (ha_w : av.getD 0 0 = 182) : h2 q = h q := by
  simp only [Bool.and_eq_true, Bool.not_eq_true', beq_eq_false_iff_ne] at hc_w
  exact funext fun k => (hfr f av _ h _ _ _ _ hc_w.1.1 rfl (Or.inr ha_w) e).2 q k (fun z => absurd z hc_w.2) hc_w.1.2
theorem DA.of {j : Nat} {h h' : XH} (e : h' 194 = h 194) (hd_w : DA j h) : DA j h' := by
  unfold DA at hd_w ⊢
  rw [e]
  exact hd_w
theorem iv_bj {j : Nat} (hj : j < 12) : IV P (3, 0, 0) (429 * (j : Int)) := ⟨⟨by omega, by omega⟩, j, hj, by omega, by omega⟩
theorem s_270 (hJ : JS (r_T 0) J) (hK_w : 4294967300 ≤ K) (c225 : TotR P (r_T 0) J g (evF xs L ck K cW g_M n) 225) (c227 : TotR P (r_T 0) J g (evF xs L ck K cW g_M n) 227) (c228 : TotR P (r_T 0) J g (evF xs L ck K cW g_M n) 228) (c254 : TotR P (r_T 0) J g (evF xs L ck K cW g_M n) 254) (c257 : TotR P (r_T 0) J g (evF xs L ck K cW g_M n) 257) (c256 : TotR P (r_T 0) J g (evF xs L ck K cW g_M n) 256) (c230 : TotR P (r_T 0) J g (evF xs L ck K cW g_M n) 230) (c269 : S269 P J g (evF xs L ck K cW g_M n)) : S270 P J g (evF xs L ck K cW g_M (n + 1)) := fun h j hQ hj hrun => by
  suffices hs : ∃ r h', evF xs L ck K cW g_M (n + 1) 270 [182, 429 * (j : Int)] ((a_g3, g), h) = some (1, r, ((a_g3, g), h')) ∧ QK P (r_T 0) J h' ∧ KR (r_T 0) h h' ∧ r = [] by
    obtain ⟨r, h', e1_w, e2_w, e3_w, rfl⟩ := hs
    exact ⟨h', e1_w, e2_w, e3_w⟩
  refine tr_of gm_270 (B := fun r h' => QK P (r_T 0) J h' ∧ KR (r_T 0) h h' ∧ r = []) ?_
  show wS _ _ K bb_270 [182, 429 * (j : Int), 0, 0, 0] h _
  have hfr := fr_all (xs := xs) (L := L) (ck := ck) (K := K) (cW := cW) n
  generalize evF xs L ck K cW g_M n = F at c225 c227 c228 c254 c257 c256 c230 c269 hfr ⊢
  have k162 : IV P (1, 0, 4) (h 194 (429 * j + 162)) := s_cell hQ (r := 3) (x := (162, 163, (1, 0, 4))) rfl (by decide) (by decide) hj
  have r0 : 0 ≤ h 194 (429 * j + 162) := k162.1
  have hb_w := iv_bj (P := P) hj
  unfold bb_270
  simp only [wf_4, wf_40, wf_5, wf_50, wf_6, wl_1, wt_1, wu_1, wa_1, wl_4, wt_4, wu_4, wa_4, wl_5, wt_5, wu_5, wa_5, wl_6, wt_6, wu_6, wa_6, wl_9, wt_9, wu_9, wa_9, wl_10, wt_10, wu_10, wa_10, wl_11, wt_11, wu_11, wa_11, wl_13, wt_13, wu_13, wa_13, wl_14, wt_14, wu_14, wa_14, wl_15, wt_15, wu_15, wa_15, wl_16, wt_16, wu_16, wa_16, wl_17, wt_17, wu_17, wa_17, wl_20, wt_20, wu_20, wa_20, wl_21, wt_21, wu_21, wa_21, wl_22, wt_22, wu_22, wa_22, wl_23, wt_23, wu_23, wa_23, wl_24, wt_24, wu_24, wa_24, wl_26, wt_26, wu_26, wa_26, wl_27, wt_27, wu_27, wa_27, wl_28, wt_28, wu_28, wa_28, we_1, we_3, we_10, we_14, we_15, we_16, we_17, we_18, we_20, we_21, we_22, we_24, we_25, we_26, we_27, we_28, we_30, we_31, we_32, wc_20, wc_21, wc_22, wc_24, wc_25, wc_26, wc_27, wc_3, wc_4, wc_7, wc_28, wc_32, ws_1, ws_2, ws_3, ws_4, ws_9, ws_10, ws_11, ws_14, ws_15, ws_16, ws_27, ws_17, ws_20, ws_28, kc_0, kc_1, kn_1, kc_2, kn_2, kc_3, kc_4, kc_5, kc_6, kc_7, kc_8, kc_9, kc_10, kc_12, kc_13, kc_14, kc_16, kc_17, kc_18, kc_19, kc_20, kc_21, kc_22, kc_24, kc_28, kc_30, kc_32, kc_37, kc_40, kc_41, kc_42, kc_43, kc_45, kc_48, kc_56, kc_57, kc_59, kc_60, kc_61, kc_64, kc_73, kc_78, kc_91, kc_95, kc_96, kc_97, kc_98, kc_99, kc_100, kc_112, kc_122, kc_125, kc_126, kc_150, kc_162, kc_163, kc_168, kc_186, kc_190, kc_200, kc_250, kc_255, kc_355, kc_356, kc_404, kc_405, kc_429, kc_573, kc_999, kc_1000, kc_1002, kc_1100, kc_1891, kc_2200, kc_4719, kc_4869, kc_4881, kc_5148, kc_9999, kn_9999, kc_10000, kc_12345, kc_19741, kc_25433, kc_65536, kc_320403, kc_628412, kc_629093, kc_660401, kc_679843, kc_918640, kc_979410, kc_1178088, kc_6232410, kc_24644941, kc_36238189, kc_38270444, kc_392531318, kc_425693491, kc_1103515245, kc_1342154595, kc_2147483648, kc_42328242873, kc_891704255789, kc_1722105685577, kc_1858726030364, ct_0, ct_1, ct_2, ct_3, ct_4, ct_5, cf_0, cf_1, cf_2, cf_3, cf_4, cf_5, w_ty6, w_ty7, m_sv, m_z0, m_hd, m_g0, m_gs, m_s0, m_ss, m_ap, m_an, forall_const, true_and, and_true, ne_eq, not_true_eq_false, not_false_eq_true, false_implies, true_implies, implies_true, eq_self, reduceCtorEq, Nat.reduceDiv, Nat.reduceMod, Int.reduceToNat, or_true, true_or, or_false, false_or, or_self, m_it, m_if, m_c1, m_01, m_02, m_03, m_04, m_10, m_12, m_13, m_14, m_20, m_21, m_23, m_24, m_30, m_31, m_32, m_34, m_40, m_41, m_42, m_43]
  have e1_w : j_iop 0 (429 * (j : Int)) 162 = 429 * (j : Int) + 162 := jadd (by omega) (by omega)
  have e2_w : (429 * (j : Int) + 162).toNat = 429 * j + 162 := by omega
  rw [e1_w, e2_w]
  generalize hR : h 194 (429 * j + 162) = R at hrun r0
  refine ⟨⟨by omega, by omega⟩, ?_⟩
  refine w_lp (fun en h' => ∃ s z : Int, en = [182, 429 * (j : Int), R, s, z] ∧ 0 ≤ s ∧ s ≤ 12 ∧ QK P (r_T 0) J h' ∧ KR (r_T 0) h h' ∧ h' 194 (429 * j + 162) = R) (fun en _ => (12 - en.getD 3 0).toNat) ⟨0, 0, rfl, by omega, by omega, hQ, KR.rf, hR⟩ ?_
  rintro en h1 ⟨s, z, rfl, s0, s1_w, q1_w, q2_w, q3_w⟩
  refine ⟨?_, ?_⟩
  · show (12 - s).toNat < K
    omega
  simp only [wf_4, wf_40, wf_5, wf_50, wf_6, wl_1, wt_1, wu_1, wa_1, wl_4, wt_4, wu_4, wa_4, wl_5, wt_5, wu_5, wa_5, wl_6, wt_6, wu_6, wa_6, wl_9, wt_9, wu_9, wa_9, wl_10, wt_10, wu_10, wa_10, wl_11, wt_11, wu_11, wa_11, wl_13, wt_13, wu_13, wa_13, wl_14, wt_14, wu_14, wa_14, wl_15, wt_15, wu_15, wa_15, wl_16, wt_16, wu_16, wa_16, wl_17, wt_17, wu_17, wa_17, wl_20, wt_20, wu_20, wa_20, wl_21, wt_21, wu_21, wa_21, wl_22, wt_22, wu_22, wa_22, wl_23, wt_23, wu_23, wa_23, wl_24, wt_24, wu_24, wa_24, wl_26, wt_26, wu_26, wa_26, wl_27, wt_27, wu_27, wa_27, wl_28, wt_28, wu_28, wa_28, we_1, we_3, we_10, we_14, we_15, we_16, we_17, we_18, we_20, we_21, we_22, we_24, we_25, we_26, we_27, we_28, we_30, we_31, we_32, wc_20, wc_21, wc_22, wc_24, wc_25, wc_26, wc_27, wc_3, wc_4, wc_7, wc_28, wc_32, ws_1, ws_2, ws_3, ws_4, ws_9, ws_10, ws_11, ws_14, ws_15, ws_16, ws_27, ws_17, ws_20, ws_28, kc_0, kc_1, kn_1, kc_2, kn_2, kc_3, kc_4, kc_5, kc_6, kc_7, kc_8, kc_9, kc_10, kc_12, kc_13, kc_14, kc_16, kc_17, kc_18, kc_19, kc_20, kc_21, kc_22, kc_24, kc_28, kc_30, kc_32, kc_37, kc_40, kc_41, kc_42, kc_43, kc_45, kc_48, kc_56, kc_57, kc_59, kc_60, kc_61, kc_64, kc_73, kc_78, kc_91, kc_95, kc_96, kc_97, kc_98, kc_99, kc_100, kc_112, kc_122, kc_125, kc_126, kc_150, kc_162, kc_163, kc_168, kc_186, kc_190, kc_200, kc_250, kc_255, kc_355, kc_356, kc_404, kc_405, kc_429, kc_573, kc_999, kc_1000, kc_1002, kc_1100, kc_1891, kc_2200, kc_4719, kc_4869, kc_4881, kc_5148, kc_9999, kn_9999, kc_10000, kc_12345, kc_19741, kc_25433, kc_65536, kc_320403, kc_628412, kc_629093, kc_660401, kc_679843, kc_918640, kc_979410, kc_1178088, kc_6232410, kc_24644941, kc_36238189, kc_38270444, kc_392531318, kc_425693491, kc_1103515245, kc_1342154595, kc_2147483648, kc_42328242873, kc_891704255789, kc_1722105685577, kc_1858726030364, ct_0, ct_1, ct_2, ct_3, ct_4, ct_5, cf_0, cf_1, cf_2, cf_3, cf_4, cf_5, w_ty6, w_ty7, m_sv, m_z0, m_hd, m_g0, m_gs, m_s0, m_ss, m_ap, m_an, forall_const, true_and, and_true, ne_eq, not_true_eq_false, not_false_eq_true, false_implies, true_implies, implies_true, eq_self, reduceCtorEq, Nat.reduceDiv, Nat.reduceMod, Int.reduceToNat, or_true, true_or, or_false, false_or, or_self, m_it, m_if, m_c1, m_01, m_02, m_03, m_04, m_10, m_12, m_13, m_14, m_20, m_21, m_23, m_24, m_30, m_31, m_32, m_34, m_40, m_41, m_42, m_43]
  obtain ⟨v1_w, h2, a1_w, a2, a3, a4, a5, -⟩ := use1 c225 rp_225 rr_225 q1_w il_this
  have a6 := fq hfr 194 a1_w (by decide +kernel) rfl
  refine ⟨[v1_w], h2, a1_w, fun hs => ?_, fun hs => ?_⟩
  · simp only [m_hd] at hs
    have hsl : IV P (1, 0, 11) s := ⟨s0, by omega, ⟨by omega, by omega⟩⟩
    obtain ⟨h3, b1, b2, b3⟩ := use0 (av := [182, 429 * (j : Int), s]) c254 rp_254 rr_254 a2 ⟨rfl, hb_w, hsl, trivial⟩
    have b6 := fq hfr 194 b1 (by decide +kernel) rfl
    refine ⟨[], h3, b1, ?_⟩
    refine w_lp (fun en h' => ∃ t : Int, en = [182, 429 * (j : Int), R, s, t] ∧ 0 ≤ t ∧ t ≤ 4 ∧ QK P (r_T 0) J h' ∧ KR (r_T 0) h h' ∧ h' 194 (429 * j + 162) = R) (fun en _ => (4 - en.getD 4 0).toNat) ⟨0, rfl, by omega, by omega, b2, (q2_w.tr a3).tr b3, by rw [b6, a6]; exact q3_w⟩ ?_
    rintro en h4 ⟨t, rfl, t0_w, t1_w, q4_w, q5_w, q6_w⟩
    refine ⟨?_, ?_⟩
    · show (4 - t).toNat < K
      omega
    simp only [wf_4, wf_40, wf_5, wf_50, wf_6, wl_1, wt_1, wu_1, wa_1, wl_4, wt_4, wu_4, wa_4, wl_5, wt_5, wu_5, wa_5, wl_6, wt_6, wu_6, wa_6, wl_9, wt_9, wu_9, wa_9, wl_10, wt_10, wu_10, wa_10, wl_11, wt_11, wu_11, wa_11, wl_13, wt_13, wu_13, wa_13, wl_14, wt_14, wu_14, wa_14, wl_15, wt_15, wu_15, wa_15, wl_16, wt_16, wu_16, wa_16, wl_17, wt_17, wu_17, wa_17, wl_20, wt_20, wu_20, wa_20, wl_21, wt_21, wu_21, wa_21, wl_22, wt_22, wu_22, wa_22, wl_23, wt_23, wu_23, wa_23, wl_24, wt_24, wu_24, wa_24, wl_26, wt_26, wu_26, wa_26, wl_27, wt_27, wu_27, wa_27, wl_28, wt_28, wu_28, wa_28, we_1, we_3, we_10, we_14, we_15, we_16, we_17, we_18, we_20, we_21, we_22, we_24, we_25, we_26, we_27, we_28, we_30, we_31, we_32, wc_20, wc_21, wc_22, wc_24, wc_25, wc_26, wc_27, wc_3, wc_4, wc_7, wc_28, wc_32, ws_1, ws_2, ws_3, ws_4, ws_9, ws_10, ws_11, ws_14, ws_15, ws_16, ws_27, ws_17, ws_20, ws_28, kc_0, kc_1, kn_1, kc_2, kn_2, kc_3, kc_4, kc_5, kc_6, kc_7, kc_8, kc_9, kc_10, kc_12, kc_13, kc_14, kc_16, kc_17, kc_18, kc_19, kc_20, kc_21, kc_22, kc_24, kc_28, kc_30, kc_32, kc_37, kc_40, kc_41, kc_42, kc_43, kc_45, kc_48, kc_56, kc_57, kc_59, kc_60, kc_61, kc_64, kc_73, kc_78, kc_91, kc_95, kc_96, kc_97, kc_98, kc_99, kc_100, kc_112, kc_122, kc_125, kc_126, kc_150, kc_162, kc_163, kc_168, kc_186, kc_190, kc_200, kc_250, kc_255, kc_355, kc_356, kc_404, kc_405, kc_429, kc_573, kc_999, kc_1000, kc_1002, kc_1100, kc_1891, kc_2200, kc_4719, kc_4869, kc_4881, kc_5148, kc_9999, kn_9999, kc_10000, kc_12345, kc_19741, kc_25433, kc_65536, kc_320403, kc_628412, kc_629093, kc_660401, kc_679843, kc_918640, kc_979410, kc_1178088, kc_6232410, kc_24644941, kc_36238189, kc_38270444, kc_392531318, kc_425693491, kc_1103515245, kc_1342154595, kc_2147483648, kc_42328242873, kc_891704255789, kc_1722105685577, kc_1858726030364, ct_0, ct_1, ct_2, ct_3, ct_4, ct_5, cf_0, cf_1, cf_2, cf_3, cf_4, cf_5, w_ty6, w_ty7, m_sv, m_z0, m_hd, m_g0, m_gs, m_s0, m_ss, m_ap, m_an, forall_const, true_and, and_true, ne_eq, not_true_eq_false, not_false_eq_true, false_implies, true_implies, implies_true, eq_self, reduceCtorEq, Nat.reduceDiv, Nat.reduceMod, Int.reduceToNat, or_true, true_or, or_false, false_or, or_self, m_it, m_if, m_c1, m_01, m_02, m_03, m_04, m_10, m_12, m_13, m_14, m_20, m_21, m_23, m_24, m_30, m_31, m_32, m_34, m_40, m_41, m_42, m_43]
    obtain ⟨v2, h5, d1_w, d2_w, d3_w, d4_w, d5, -⟩ := use1 c227 rp_227 rr_227 q4_w il_this
    have d6_w := fq hfr 194 d1_w (by decide +kernel) rfl
    refine ⟨[v2], h5, d1_w, fun ht => ?_, fun ht => ?_⟩
    · simp only [m_hd] at ht
      obtain ⟨v3, h6, x1_w, x2_w, x3, x4_w⟩ := use1 (av := [182, 429 * (j : Int), t, s]) c257 rp_257 rr_257 d2_w ⟨rfl, hb_w, IV.top ⟨by omega, by omega⟩, hsl, trivial⟩
      have x6 := fq hfr 194 x1_w (by decide +kernel) rfl
      have ei : j_iop 0 (j_iop 0 (j_iop 0 (j_iop 0 (429 * (j : Int)) 163) (j_iop 2 48 R)) (j_iop 2 12 t)) s = 429 * (j : Int) + 163 + 48 * R + 12 * t + s := by
        simp (disch := omega) only [jmul, jadd]
      rw [ei, jinc (by omega) (by omega)]
      have ej : (429 * (j : Int) + 163 + 48 * R + 12 * t + s).toNat = 429 * j + (163 + 48 * R + 12 * t + s).toNat := by omega
      rw [ej]
      obtain ⟨z1, z2⟩ := st_QK x2_w hJ (j := j) (i := (163 + 48 * R + 12 * t + s).toNat) (v := v3) hj (by omega) (st_fit_ok (lo_w := 163) (hi_w := 355) (t := iT) (by decide +kernel) (by omega) (by omega) x4_w) x4_w.2.2
      refine ⟨[v3], h6, x1_w, ⟨by omega, by omega⟩, ⟨t + 1, rfl, by omega, by omega, z1, ((q5_w.tr d3_w).tr x3).tr z2, ?_⟩, ?_⟩
      · rw [up_ne (fun z => by have := z.2; omega), x6, d6_w]
        exact q6_w
      · show (4 - (t + 1)).toNat < (4 - t).toNat
        omega
    · rw [jinc (by omega) (by omega)]
      refine ⟨⟨s + 1, t, rfl, by omega, by omega, d2_w, q5_w.tr d3_w, by rw [d6_w]; exact q6_w⟩, ?_⟩
      show (12 - (s + 1)).toNat < (12 - s).toNat
      omega
  · have e3_w : j_iop 0 (429 * (j : Int)) 355 = 429 * (j : Int) + 355 := jadd (by omega) (by omega)
    have e4_w : (429 * (j : Int) + 355).toNat = 429 * j + 355 := by omega
    rw [e3_w, e4_w]
    obtain ⟨z1, z2⟩ := st_QK a2 hJ (j := j) (i := 355) (v := 0) hj (by decide) (st_fit_ok (lo_w := 355) (hi_w := 356) (t := (1, 0, 16)) (by decide +kernel) (by decide) (by decide) ⟨by decide, by decide, in_0⟩) in_0
    refine ⟨⟨by omega, by omega⟩, ?_⟩
    refine w_lp (fun en h' => ∃ m z : Int, en = [182, 429 * (j : Int), R, m, z] ∧ 0 ≤ m ∧ m ≤ 6 ∧ QK P (r_T 0) J h' ∧ KR (r_T 0) h h' ∧ h' 194 (429 * j + 162) = R ∧ DA j h') (fun en _ => (6 - en.getD 3 0).toNat) ⟨0, z, rfl, by omega, by omega, z1, (q2_w.tr a3).tr z2, ?_, ?_⟩ ?_
    · rw [up_ne (fun z => by have := z.2; omega), a6]
      exact q3_w
    · intro k k' _ hk
      rw [up_eq] at hk
      omega
    rintro en h3 ⟨m, z, rfl, m0_w, m1_w, q4_w, q5_w, q6_w, q7_w⟩
    refine ⟨?_, ?_⟩
    · show (6 - m).toNat < K
      omega
    simp only [wf_4, wf_40, wf_5, wf_50, wf_6, wl_1, wt_1, wu_1, wa_1, wl_4, wt_4, wu_4, wa_4, wl_5, wt_5, wu_5, wa_5, wl_6, wt_6, wu_6, wa_6, wl_9, wt_9, wu_9, wa_9, wl_10, wt_10, wu_10, wa_10, wl_11, wt_11, wu_11, wa_11, wl_13, wt_13, wu_13, wa_13, wl_14, wt_14, wu_14, wa_14, wl_15, wt_15, wu_15, wa_15, wl_16, wt_16, wu_16, wa_16, wl_17, wt_17, wu_17, wa_17, wl_20, wt_20, wu_20, wa_20, wl_21, wt_21, wu_21, wa_21, wl_22, wt_22, wu_22, wa_22, wl_23, wt_23, wu_23, wa_23, wl_24, wt_24, wu_24, wa_24, wl_26, wt_26, wu_26, wa_26, wl_27, wt_27, wu_27, wa_27, wl_28, wt_28, wu_28, wa_28, we_1, we_3, we_10, we_14, we_15, we_16, we_17, we_18, we_20, we_21, we_22, we_24, we_25, we_26, we_27, we_28, we_30, we_31, we_32, wc_20, wc_21, wc_22, wc_24, wc_25, wc_26, wc_27, wc_3, wc_4, wc_7, wc_28, wc_32, ws_1, ws_2, ws_3, ws_4, ws_9, ws_10, ws_11, ws_14, ws_15, ws_16, ws_27, ws_17, ws_20, ws_28, kc_0, kc_1, kn_1, kc_2, kn_2, kc_3, kc_4, kc_5, kc_6, kc_7, kc_8, kc_9, kc_10, kc_12, kc_13, kc_14, kc_16, kc_17, kc_18, kc_19, kc_20, kc_21, kc_22, kc_24, kc_28, kc_30, kc_32, kc_37, kc_40, kc_41, kc_42, kc_43, kc_45, kc_48, kc_56, kc_57, kc_59, kc_60, kc_61, kc_64, kc_73, kc_78, kc_91, kc_95, kc_96, kc_97, kc_98, kc_99, kc_100, kc_112, kc_122, kc_125, kc_126, kc_150, kc_162, kc_163, kc_168, kc_186, kc_190, kc_200, kc_250, kc_255, kc_355, kc_356, kc_404, kc_405, kc_429, kc_573, kc_999, kc_1000, kc_1002, kc_1100, kc_1891, kc_2200, kc_4719, kc_4869, kc_4881, kc_5148, kc_9999, kn_9999, kc_10000, kc_12345, kc_19741, kc_25433, kc_65536, kc_320403, kc_628412, kc_629093, kc_660401, kc_679843, kc_918640, kc_979410, kc_1178088, kc_6232410, kc_24644941, kc_36238189, kc_38270444, kc_392531318, kc_425693491, kc_1103515245, kc_1342154595, kc_2147483648, kc_42328242873, kc_891704255789, kc_1722105685577, kc_1858726030364, ct_0, ct_1, ct_2, ct_3, ct_4, ct_5, cf_0, cf_1, cf_2, cf_3, cf_4, cf_5, w_ty6, w_ty7, m_sv, m_z0, m_hd, m_g0, m_gs, m_s0, m_ss, m_ap, m_an, forall_const, true_and, and_true, ne_eq, not_true_eq_false, not_false_eq_true, false_implies, true_implies, implies_true, eq_self, reduceCtorEq, Nat.reduceDiv, Nat.reduceMod, Int.reduceToNat, or_true, true_or, or_false, false_or, or_self, m_it, m_if, m_c1, m_01, m_02, m_03, m_04, m_10, m_12, m_13, m_14, m_20, m_21, m_23, m_24, m_30, m_31, m_32, m_34, m_40, m_41, m_42, m_43]
    obtain ⟨v2, h4, b1, b2, b3, b4, b5, b5'⟩ := use1 c228 rp_228 rr_228 q4_w il_this
    have b6 := fq hfr 194 b1 (by decide +kernel) rfl
    refine ⟨[v2], h4, b1, fun hm_w => ?_, fun hm_w => ?_⟩
    · simp only [m_hd] at hm_w
      have hmt : IV P (5, 0, 0) m := ⟨m0_w, by omega, by have := q_nM b2; omega⟩
      refine w_lp (fun en h' => ∃ s : Int, en = [182, 429 * (j : Int), R, m, s] ∧ 0 ≤ s ∧ s ≤ 12 ∧ QK P (r_T 0) J h' ∧ KR (r_T 0) h h' ∧ h' 194 (429 * j + 162) = R ∧ DA j h') (fun en _ => (12 - en.getD 4 0).toNat) ⟨0, rfl, by omega, by omega, b2, q5_w.tr b3, by rw [b6]; exact q6_w, q7_w.of b6⟩ ?_
      rintro en h5 ⟨s, rfl, s0, s1_w, q8_w, q9_w, q10_w, q11_w⟩
      refine ⟨?_, ?_⟩
      · show (12 - s).toNat < K
        omega
      simp only [wf_4, wf_40, wf_5, wf_50, wf_6, wl_1, wt_1, wu_1, wa_1, wl_4, wt_4, wu_4, wa_4, wl_5, wt_5, wu_5, wa_5, wl_6, wt_6, wu_6, wa_6, wl_9, wt_9, wu_9, wa_9, wl_10, wt_10, wu_10, wa_10, wl_11, wt_11, wu_11, wa_11, wl_13, wt_13, wu_13, wa_13, wl_14, wt_14, wu_14, wa_14, wl_15, wt_15, wu_15, wa_15, wl_16, wt_16, wu_16, wa_16, wl_17, wt_17, wu_17, wa_17, wl_20, wt_20, wu_20, wa_20, wl_21, wt_21, wu_21, wa_21, wl_22, wt_22, wu_22, wa_22, wl_23, wt_23, wu_23, wa_23, wl_24, wt_24, wu_24, wa_24, wl_26, wt_26, wu_26, wa_26, wl_27, wt_27, wu_27, wa_27, wl_28, wt_28, wu_28, wa_28, we_1, we_3, we_10, we_14, we_15, we_16, we_17, we_18, we_20, we_21, we_22, we_24, we_25, we_26, we_27, we_28, we_30, we_31, we_32, wc_20, wc_21, wc_22, wc_24, wc_25, wc_26, wc_27, wc_3, wc_4, wc_7, wc_28, wc_32, ws_1, ws_2, ws_3, ws_4, ws_9, ws_10, ws_11, ws_14, ws_15, ws_16, ws_27, ws_17, ws_20, ws_28, kc_0, kc_1, kn_1, kc_2, kn_2, kc_3, kc_4, kc_5, kc_6, kc_7, kc_8, kc_9, kc_10, kc_12, kc_13, kc_14, kc_16, kc_17, kc_18, kc_19, kc_20, kc_21, kc_22, kc_24, kc_28, kc_30, kc_32, kc_37, kc_40, kc_41, kc_42, kc_43, kc_45, kc_48, kc_56, kc_57, kc_59, kc_60, kc_61, kc_64, kc_73, kc_78, kc_91, kc_95, kc_96, kc_97, kc_98, kc_99, kc_100, kc_112, kc_122, kc_125, kc_126, kc_150, kc_162, kc_163, kc_168, kc_186, kc_190, kc_200, kc_250, kc_255, kc_355, kc_356, kc_404, kc_405, kc_429, kc_573, kc_999, kc_1000, kc_1002, kc_1100, kc_1891, kc_2200, kc_4719, kc_4869, kc_4881, kc_5148, kc_9999, kn_9999, kc_10000, kc_12345, kc_19741, kc_25433, kc_65536, kc_320403, kc_628412, kc_629093, kc_660401, kc_679843, kc_918640, kc_979410, kc_1178088, kc_6232410, kc_24644941, kc_36238189, kc_38270444, kc_392531318, kc_425693491, kc_1103515245, kc_1342154595, kc_2147483648, kc_42328242873, kc_891704255789, kc_1722105685577, kc_1858726030364, ct_0, ct_1, ct_2, ct_3, ct_4, ct_5, cf_0, cf_1, cf_2, cf_3, cf_4, cf_5, w_ty6, w_ty7, m_sv, m_z0, m_hd, m_g0, m_gs, m_s0, m_ss, m_ap, m_an, forall_const, true_and, and_true, ne_eq, not_true_eq_false, not_false_eq_true, false_implies, true_implies, implies_true, eq_self, reduceCtorEq, Nat.reduceDiv, Nat.reduceMod, Int.reduceToNat, or_true, true_or, or_false, false_or, or_self, m_it, m_if, m_c1, m_01, m_02, m_03, m_04, m_10, m_12, m_13, m_14, m_20, m_21, m_23, m_24, m_30, m_31, m_32, m_34, m_40, m_41, m_42, m_43]
      obtain ⟨v3, h6, d1_w, d2_w, d3_w, d4_w, d5, -⟩ := use1 c225 rp_225 rr_225 q8_w il_this
      have d6_w := fq hfr 194 d1_w (by decide +kernel) rfl
      refine ⟨[v3], h6, d1_w, fun hs => ?_, fun hs => ?_⟩
      · simp only [m_hd] at hs
        have hsl : IV P (1, 0, 11) s := ⟨s0, by omega, ⟨by omega, by omega⟩⟩
        obtain ⟨h7, x1_w, x2_w, x3⟩ := use0 (av := [182, 429 * (j : Int), s]) c254 rp_254 rr_254 d2_w ⟨rfl, hb_w, hsl, trivial⟩
        have x6 := fq hfr 194 x1_w (by decide +kernel) rfl
        obtain ⟨v4_w, h8, y1, y2, y3, y4⟩ := use1 (av := [182, 429 * (j : Int), m, s]) c256 rp_256 rr_256 x2_w ⟨rfl, hb_w, hmt, hsl, trivial⟩
        have y6 := fq hfr 194 y1 (by decide +kernel) rfl
        obtain ⟨v5, h9, w1_w, w2_w, w3_w, w4_w⟩ := use1 (av := [182, m]) c230 rp_230 rr_230 y2 ⟨rfl, hmt, trivial⟩
        have w6_w := fq hfr 194 w1_w (by decide +kernel) rfl
        have e9_w : h9 194 = h5 194 := by rw [w6_w, y6, x6, d6_w]
        obtain ⟨ha_w, u1, u2_w, u3, u4_w, u5⟩ := c269 h9 j v4_w v5 (h9 197 m.toNat) w2_w hj (q11_w.of e9_w) y4.1 y4.2.1 w4_w.1 (by have := w4_w.2; omega) (ht_int w2_w.1 (by decide) _)
        rw [jinc (by omega) (by omega)]
        refine ⟨[], h7, x1_w, [v4_w], h8, y1, [v5], h9, w1_w, ⟨by omega, by have := hmt.2; omega⟩, [], ha_w, u1, ⟨s + 1, rfl, by omega, by omega, u2_w, ((((q9_w.tr d3_w).tr x3).tr y3).tr w3_w).tr u3, ?_, u4_w⟩, ?_⟩
        · rw [u5 _ (Or.inl (by omega)), e9_w]
          exact q10_w
        · show (12 - (s + 1)).toNat < (12 - s).toNat
          omega
      · rw [jinc (by omega) (by omega)]
        refine ⟨⟨m + 1, s, rfl, by omega, by omega, d2_w, q9_w.tr d3_w, by rw [d6_w]; exact q10_w, q11_w.of d6_w⟩, ?_⟩
        show (6 - (m + 1)).toNat < (6 - m).toNat
        omega
    · rw [e1_w, e2_w]
      rw [show h4 194 (429 * j + 162) = R from by rw [b6]; exact q6_w, jadd (by omega) (by omega)]
      obtain ⟨z3, z4⟩ := st_QK b2 hJ (j := j) (i := 162) (v := R + 1) hj (by decide) (st_fit_ok (lo_w := 162) (hi_w := 163) (t := (1, 0, 4)) (by decide +kernel) (by decide) (by decide) ⟨by omega, by omega, ⟨by omega, by omega⟩⟩) ⟨by omega, by omega⟩
      exact ⟨⟨by omega, by omega⟩, z3, (q5_w.tr b3).tr z4⟩
end HA9
end
section
/-! ===== the reference's methods by hand_w: run, undo, see, draw_w, mark_w ===== -/
def S242 (P : Int × Int) (J : XH → Prop) (g : Nat × Nat) (F : XP) : Prop := ∀ (h : XH), QK P (r_T 0) J h → ∃ h', F 242 [182] ((a_g3, g), h) = some (1, [], ((a_g3, g), h')) ∧ QK P (r_T 0) J h' ∧ KR (r_T 0) h h' ∧ (∀ p, p < 858 → h' 194 p = h 194 p)
def S224 (P : Int × Int) (J : XH → Prop) (g : Nat × Nat) (F : XP) : Prop := ∀ (h : XH) (i j : Nat) (m : Int), QK P (r_T 0) J h → i < 12 → j < 12 → 0 ≤ m → m ≤ 429 → ∃ h', F 224 [182, 429 * (i : Int), 429 * (j : Int), m] ((a_g3, g), h) = some (1, [], ((a_g3, g), h')) ∧ QK P (r_T 0) J h' ∧ KR (r_T 0) h h' ∧ But 194 h h'
def S309 (P : Int × Int) (J : XH → Prop) (g : Nat × Nat) (F : XP) : Prop := ∀ (h : XH) (m : Int), QK P (r_T 0) J h → 1 ≤ m → m ≤ 200 → ∃ v h', F 309 [182, m] ((a_g3, g), h) = some (1, [v], ((a_g3, g), h')) ∧ QK P (r_T 0) J h' ∧ KR (r_T 0) h h' ∧ 0 ≤ v ∧ v < m
section HAA
variable {P : Int × Int} {g : Nat × Nat} {xs : Nat → Int} {L K n : Nat} {ck : Nat → List Nat} {cW : Nat → Nat → Int} {h : XH} {J : XH → Prop}
theorem s_242 (hJ : JS (r_T 0) J) (hK_w : 4294967300 ≤ K) : S242 P J g (evF xs L ck K cW g_M (n + 2)) := fun h hQ => by
  obtain ⟨r, h', e1_w, e2_w, e3_w, e4_w, rfl⟩ := m_242 (xs := xs) (L := L) (ck := ck) (cW := cW) (n := n) (g := g) hJ hK_w hQ
  exact ⟨h', e1_w, e2_w, e3_w, e4_w⟩
theorem s_224 (hJ : JS (r_T 0) J) (hK_w : 4294967300 ≤ K) : S224 P J g (evF xs L ck K cW g_M (n + 1)) := fun h i j m hQ hi_w hj m0_w m1_w => by
  obtain ⟨r, h', e1_w, e2_w, e3_w, e4_w, -, rfl⟩ := m_224 (xs := xs) (L := L) (ck := ck) (cW := cW) (n := n) (g := g) hJ hK_w hQ hi_w hj m0_w m1_w
  exact ⟨h', e1_w, e2_w, e3_w, e4_w⟩
theorem th0 (hQ : QK P (r_T 0) J h) (hJ : JS (r_T 0) J) : QK P (r_T 0) J (j_up h 182 0 0) ∧ KR (r_T 0) h (j_up h 182 0 0) := fd_QK hQ hJ (k := 0) (v := 0) (Or.inl rfl) ⟨by decide, by decide, in_0⟩
theorem in_1 : InI 1 := ⟨by decide, by decide⟩
theorem in_m1 : InI (-1) := ⟨by decide, by decide⟩
theorem t_271 (hJ : JS (r_T 0) J) (c242 : S242 P J g (evF xs L ck K cW g_M n)) (c270 : S270 P J g (evF xs L ck K cW g_M n)) : TotR P (r_T 0) J g (evF xs L ck K cW g_M (n + 1)) 271 := by
  refine tot_hand gm_271 rp_271 rr_271 ru_271 fun av h hQ hv => ?_
  obtain ⟨x, rfl, hx⟩ := il1 hv
  obtain rfl : x = 182 := hx
  show wS _ _ K bb_271 [182] h _
  generalize evF xs L ck K cW g_M n = F at c242 c270 ⊢
  unfold bb_271
  simp only [wf_4, wf_40, wf_5, wf_50, wf_6, wl_1, wt_1, wu_1, wa_1, wl_4, wt_4, wu_4, wa_4, wl_5, wt_5, wu_5, wa_5, wl_6, wt_6, wu_6, wa_6, wl_9, wt_9, wu_9, wa_9, wl_10, wt_10, wu_10, wa_10, wl_11, wt_11, wu_11, wa_11, wl_13, wt_13, wu_13, wa_13, wl_14, wt_14, wu_14, wa_14, wl_15, wt_15, wu_15, wa_15, wl_16, wt_16, wu_16, wa_16, wl_17, wt_17, wu_17, wa_17, wl_20, wt_20, wu_20, wa_20, wl_21, wt_21, wu_21, wa_21, wl_22, wt_22, wu_22, wa_22, wl_23, wt_23, wu_23, wa_23, wl_24, wt_24, wu_24, wa_24, wl_26, wt_26, wu_26, wa_26, wl_27, wt_27, wu_27, wa_27, wl_28, wt_28, wu_28, wa_28, we_1, we_3, we_10, we_14, we_15, we_16, we_17, we_18, we_20, we_21, we_22, we_24, we_25, we_26, we_27, we_28, we_30, we_31, we_32, wc_20, wc_21, wc_22, wc_24, wc_25, wc_26, wc_27, wc_3, wc_4, wc_7, wc_28, wc_32, ws_1, ws_2, ws_3, ws_4, ws_9, ws_10, ws_11, ws_14, ws_15, ws_16, ws_27, ws_17, ws_20, ws_28, kc_0, kc_1, kn_1, kc_2, kn_2, kc_3, kc_4, kc_5, kc_6, kc_7, kc_8, kc_9, kc_10, kc_12, kc_13, kc_14, kc_16, kc_17, kc_18, kc_19, kc_20, kc_21, kc_22, kc_24, kc_28, kc_30, kc_32, kc_37, kc_40, kc_41, kc_42, kc_43, kc_45, kc_48, kc_56, kc_57, kc_59, kc_60, kc_61, kc_64, kc_73, kc_78, kc_91, kc_95, kc_96, kc_97, kc_98, kc_99, kc_100, kc_112, kc_122, kc_125, kc_126, kc_150, kc_162, kc_163, kc_168, kc_186, kc_190, kc_200, kc_250, kc_255, kc_355, kc_356, kc_404, kc_405, kc_429, kc_573, kc_999, kc_1000, kc_1002, kc_1100, kc_1891, kc_2200, kc_4719, kc_4869, kc_4881, kc_5148, kc_9999, kn_9999, kc_10000, kc_12345, kc_19741, kc_25433, kc_65536, kc_320403, kc_628412, kc_629093, kc_660401, kc_679843, kc_918640, kc_979410, kc_1178088, kc_6232410, kc_24644941, kc_36238189, kc_38270444, kc_392531318, kc_425693491, kc_1103515245, kc_1342154595, kc_2147483648, kc_42328242873, kc_891704255789, kc_1722105685577, kc_1858726030364, ct_0, ct_1, ct_2, ct_3, ct_4, ct_5, cf_0, cf_1, cf_2, cf_3, cf_4, cf_5, w_ty6, w_ty7, m_sv, m_z0, m_hd, m_g0, m_gs, m_s0, m_ss, m_ap, m_an, forall_const, true_and, and_true, ne_eq, not_true_eq_false, not_false_eq_true, false_implies, true_implies, implies_true, eq_self, reduceCtorEq, Nat.reduceDiv, Nat.reduceMod, Int.reduceToNat, or_true, true_or, or_false, false_or, or_self, m_it, m_if, m_c1, m_01, m_02, m_03, m_04, m_10, m_12, m_13, m_14, m_20, m_21, m_23, m_24, m_30, m_31, m_32, m_34, m_40, m_41, m_42, m_43]
  obtain ⟨z1, z2⟩ := th0 hQ hJ
  have b162 : (0 : Int) ≤ 162 ∧ (162 : Int) < 5148 := by decide
  refine ⟨b162, fun k => ⟨z1, z2, IV.top in_m1, trivial⟩, fun k => ?_⟩
  obtain ⟨h1, a1_w, a2, a3, a4⟩ := c242 _ z1
  have k4 : IV P (1, 0, 4) (j_up h 182 0 0 194 162) := s_cell (j := 0) (i := 162) z1 (r := 3) (x := (162, 163, (1, 0, 4))) rfl (by decide) (by decide) (by decide)
  have k5 : h1 194 (429 * 0 + 162) < 4 := by
    rw [show 429 * 0 + 162 = 162 from rfl, a4 162 (by decide)]
    have := k4.2.1
    omega
  obtain ⟨h2, b1, b2, b3⟩ := c270 h1 0 a2 (by decide) k5
  exact ⟨[], h1, a1_w, [], h2, b1, b162, b2, (z2.tr a3).tr b3, IV.top (iop_in _ _ _), trivial⟩
theorem t_272 (hJ : JS (r_T 0) J) (c224 : S224 P J g (evF xs L ck K cW g_M n)) : TotR P (r_T 0) J g (evF xs L ck K cW g_M (n + 1)) 272 := by
  refine tot_hand gm_272 rp_272 rr_272 ru_272 fun av h hQ hv => ?_
  obtain ⟨x, rfl, hx⟩ := il1 hv
  obtain rfl : x = 182 := hx
  show wS _ _ K bb_272 [182] h _
  generalize evF xs L ck K cW g_M n = F at c224 ⊢
  unfold bb_272
  simp only [wf_4, wf_40, wf_5, wf_50, wf_6, wl_1, wt_1, wu_1, wa_1, wl_4, wt_4, wu_4, wa_4, wl_5, wt_5, wu_5, wa_5, wl_6, wt_6, wu_6, wa_6, wl_9, wt_9, wu_9, wa_9, wl_10, wt_10, wu_10, wa_10, wl_11, wt_11, wu_11, wa_11, wl_13, wt_13, wu_13, wa_13, wl_14, wt_14, wu_14, wa_14, wl_15, wt_15, wu_15, wa_15, wl_16, wt_16, wu_16, wa_16, wl_17, wt_17, wu_17, wa_17, wl_20, wt_20, wu_20, wa_20, wl_21, wt_21, wu_21, wa_21, wl_22, wt_22, wu_22, wa_22, wl_23, wt_23, wu_23, wa_23, wl_24, wt_24, wu_24, wa_24, wl_26, wt_26, wu_26, wa_26, wl_27, wt_27, wu_27, wa_27, wl_28, wt_28, wu_28, wa_28, we_1, we_3, we_10, we_14, we_15, we_16, we_17, we_18, we_20, we_21, we_22, we_24, we_25, we_26, we_27, we_28, we_30, we_31, we_32, wc_20, wc_21, wc_22, wc_24, wc_25, wc_26, wc_27, wc_3, wc_4, wc_7, wc_28, wc_32, ws_1, ws_2, ws_3, ws_4, ws_9, ws_10, ws_11, ws_14, ws_15, ws_16, ws_27, ws_17, ws_20, ws_28, kc_0, kc_1, kn_1, kc_2, kn_2, kc_3, kc_4, kc_5, kc_6, kc_7, kc_8, kc_9, kc_10, kc_12, kc_13, kc_14, kc_16, kc_17, kc_18, kc_19, kc_20, kc_21, kc_22, kc_24, kc_28, kc_30, kc_32, kc_37, kc_40, kc_41, kc_42, kc_43, kc_45, kc_48, kc_56, kc_57, kc_59, kc_60, kc_61, kc_64, kc_73, kc_78, kc_91, kc_95, kc_96, kc_97, kc_98, kc_99, kc_100, kc_112, kc_122, kc_125, kc_126, kc_150, kc_162, kc_163, kc_168, kc_186, kc_190, kc_200, kc_250, kc_255, kc_355, kc_356, kc_404, kc_405, kc_429, kc_573, kc_999, kc_1000, kc_1002, kc_1100, kc_1891, kc_2200, kc_4719, kc_4869, kc_4881, kc_5148, kc_9999, kn_9999, kc_10000, kc_12345, kc_19741, kc_25433, kc_65536, kc_320403, kc_628412, kc_629093, kc_660401, kc_679843, kc_918640, kc_979410, kc_1178088, kc_6232410, kc_24644941, kc_36238189, kc_38270444, kc_392531318, kc_425693491, kc_1103515245, kc_1342154595, kc_2147483648, kc_42328242873, kc_891704255789, kc_1722105685577, kc_1858726030364, ct_0, ct_1, ct_2, ct_3, ct_4, ct_5, cf_0, cf_1, cf_2, cf_3, cf_4, cf_5, w_ty6, w_ty7, m_sv, m_z0, m_hd, m_g0, m_gs, m_s0, m_ss, m_ap, m_an, forall_const, true_and, and_true, ne_eq, not_true_eq_false, not_false_eq_true, false_implies, true_implies, implies_true, eq_self, reduceCtorEq, Nat.reduceDiv, Nat.reduceMod, Int.reduceToNat, or_true, true_or, or_false, false_or, or_self, m_it, m_if, m_c1, m_01, m_02, m_03, m_04, m_10, m_12, m_13, m_14, m_20, m_21, m_23, m_24, m_30, m_31, m_32, m_34, m_40, m_41, m_42, m_43]
  obtain ⟨z1, z2⟩ := th0 hQ hJ
  have u := q_undos z1
  generalize j_up h 182 0 0 = h1 at z1 z2 u ⊢
  refine ⟨fun k => ⟨z1, z2, ⟨by decide, by decide, in_0⟩, trivial⟩, fun k => ?_⟩
  rw [up_eq, jsub (by omega) (by omega)]
  obtain ⟨z3, z4⟩ := fd_QK z1 hJ (k := 18) (v := h1 182 18 - 1) (Or.inl rfl) ⟨by omega, by omega, by omega, by omega⟩
  obtain ⟨h2, b1, b2, b3, -⟩ := c224 _ (3 + (h1 182 18 - 1).toNat) 0 404 z3 (by omega) (by decide) (by decide) (by decide)
  rw [jadd (by omega) (by omega), jmul (by omega) (by omega)]
  rw [show 429 * (3 + (h1 182 18 - 1)) = 429 * ((3 + (h1 182 18 - 1).toNat : Nat) : Int) by omega]
  exact ⟨[], h2, b1, b2, (z2.tr z4).tr b3, ⟨by decide, by decide, in_1⟩, trivial⟩
theorem s_309 (hJ : JS (r_T 0) J) : S309 P J g (evF xs L ck K cW g_M (n + 1)) := fun h m hQ m0_w m1_w => by
  suffices hs : ∃ r h', evF xs L ck K cW g_M (n + 1) 309 [182, m] ((a_g3, g), h) = some (1, r, ((a_g3, g), h')) ∧ QK P (r_T 0) J h' ∧ KR (r_T 0) h h' ∧ ∃ v, r = [v] ∧ 0 ≤ v ∧ v < m by
    obtain ⟨r, h', e1_w, e2_w, e3_w, v, rfl, e4_w⟩ := hs
    exact ⟨v, h', e1_w, e2_w, e3_w, e4_w⟩
  refine tr_of gm_309 (B := fun r h' => QK P (r_T 0) J h' ∧ KR (r_T 0) h h' ∧ ∃ v, r = [v] ∧ 0 ≤ v ∧ v < m) ?_
  show wS _ _ K bb_309 [182, m] h _
  generalize evF xs L ck K cW g_M n = F
  unfold bb_309
  simp only [wf_4, wf_40, wf_5, wf_50, wf_6, wl_1, wt_1, wu_1, wa_1, wl_4, wt_4, wu_4, wa_4, wl_5, wt_5, wu_5, wa_5, wl_6, wt_6, wu_6, wa_6, wl_9, wt_9, wu_9, wa_9, wl_10, wt_10, wu_10, wa_10, wl_11, wt_11, wu_11, wa_11, wl_13, wt_13, wu_13, wa_13, wl_14, wt_14, wu_14, wa_14, wl_15, wt_15, wu_15, wa_15, wl_16, wt_16, wu_16, wa_16, wl_17, wt_17, wu_17, wa_17, wl_20, wt_20, wu_20, wa_20, wl_21, wt_21, wu_21, wa_21, wl_22, wt_22, wu_22, wa_22, wl_23, wt_23, wu_23, wa_23, wl_24, wt_24, wu_24, wa_24, wl_26, wt_26, wu_26, wa_26, wl_27, wt_27, wu_27, wa_27, wl_28, wt_28, wu_28, wa_28, we_1, we_3, we_10, we_14, we_15, we_16, we_17, we_18, we_20, we_21, we_22, we_24, we_25, we_26, we_27, we_28, we_30, we_31, we_32, wc_20, wc_21, wc_22, wc_24, wc_25, wc_26, wc_27, wc_3, wc_4, wc_7, wc_28, wc_32, ws_1, ws_2, ws_3, ws_4, ws_9, ws_10, ws_11, ws_14, ws_15, ws_16, ws_27, ws_17, ws_20, ws_28, kc_0, kc_1, kn_1, kc_2, kn_2, kc_3, kc_4, kc_5, kc_6, kc_7, kc_8, kc_9, kc_10, kc_12, kc_13, kc_14, kc_16, kc_17, kc_18, kc_19, kc_20, kc_21, kc_22, kc_24, kc_28, kc_30, kc_32, kc_37, kc_40, kc_41, kc_42, kc_43, kc_45, kc_48, kc_56, kc_57, kc_59, kc_60, kc_61, kc_64, kc_73, kc_78, kc_91, kc_95, kc_96, kc_97, kc_98, kc_99, kc_100, kc_112, kc_122, kc_125, kc_126, kc_150, kc_162, kc_163, kc_168, kc_186, kc_190, kc_200, kc_250, kc_255, kc_355, kc_356, kc_404, kc_405, kc_429, kc_573, kc_999, kc_1000, kc_1002, kc_1100, kc_1891, kc_2200, kc_4719, kc_4869, kc_4881, kc_5148, kc_9999, kn_9999, kc_10000, kc_12345, kc_19741, kc_25433, kc_65536, kc_320403, kc_628412, kc_629093, kc_660401, kc_679843, kc_918640, kc_979410, kc_1178088, kc_6232410, kc_24644941, kc_36238189, kc_38270444, kc_392531318, kc_425693491, kc_1103515245, kc_1342154595, kc_2147483648, kc_42328242873, kc_891704255789, kc_1722105685577, kc_1858726030364, ct_0, ct_1, ct_2, ct_3, ct_4, ct_5, cf_0, cf_1, cf_2, cf_3, cf_4, cf_5, w_ty6, w_ty7, m_sv, m_z0, m_hd, m_g0, m_gs, m_s0, m_ss, m_ap, m_an, forall_const, true_and, and_true, ne_eq, not_true_eq_false, not_false_eq_true, false_implies, true_implies, implies_true, eq_self, reduceCtorEq, Nat.reduceDiv, Nat.reduceMod, Int.reduceToNat, or_true, true_or, or_false, false_or, or_self, m_it, m_if, m_c1, m_01, m_02, m_03, m_04, m_10, m_12, m_13, m_14, m_20, m_21, m_23, m_24, m_30, m_31, m_32, m_34, m_40, m_41, m_42, m_43]
  rw [up_eq]
  obtain ⟨g0, g1, -⟩ : IV P (2, 0, 2147483647) (h 182 29) := hQ.2.1 29
  generalize h 182 29 = G at g0 g1 ⊢
  have e1_w : j_lop 0 (j_lop 2 G 1103515245) 12345 = G * 1103515245 + 12345 := by
    show j64 (j64 (G * 1103515245) + 12345) = _
    rw [j64_in (v := G * 1103515245) ⟨by omega, by omega⟩, j64_in ⟨by omega, by omega⟩]
  rw [e1_w]
  obtain ⟨k1_w, k2, k3, -⟩ := emod_bd (v := G * 1103515245 + 12345) (w := 2147483648) (by omega) (by decide)
  have e2_w : j_div 3 (G * 1103515245 + 12345) 2147483648 = (G * 1103515245 + 12345) % 2147483648 := k1_w
  rw [e2_w]
  generalize (G * 1103515245 + 12345) % 2147483648 = X at k2 k3 ⊢
  obtain ⟨z1, z2⟩ := fd_QK hQ hJ (k := 29) (v := X) (Or.inr rfl) ⟨k2, by omega, ⟨by omega, by omega⟩⟩
  refine ⟨by decide, by decide, by show ¬m = 0; omega, z1, z2, _, rfl, ?_⟩
  obtain ⟨d1_w, d2_w, d3_w⟩ := ediv_bd (v := X) (w := 65536) k2 (by decide)
  have e3_w : j_div 2 X 65536 = X / 65536 := by
    show j64 (X.tdiv 65536) = _
    rw [d1_w, j64_in ⟨by omega, by omega⟩]
  rw [e3_w]
  obtain ⟨m1', m2_w, m3_w, m4_w⟩ := emod_bd (v := X / 65536) (w := m) d2_w (by omega)
  have e4_w : j_un 3 (j_div 3 (X / 65536) (j_un 2 m)) = X / 65536 % m := by
    show j32 ((X / 65536).tmod m) = _
    rw [m1', j32_in ⟨by omega, by omega⟩]
  rw [e4_w]
  exact ⟨m2_w, m3_w⟩
theorem t_304 (hJ : JS (r_T 0) J) (c198 : TotW g (evF xs L ck K cW g_M n)) (c236 : TotR P (r_T 0) J g (evF xs L ck K cW g_M n) 236) : TotR P (r_T 0) J g (evF xs L ck K cW g_M (n + 1)) 304 := by
  refine tot_hand gm_304 rp_304 rr_304 ru_304 fun av h hQ hv => ?_
  obtain ⟨x, a, b, c, rfl, hx, ha_w, hb_w, hc_w⟩ := il4 hv
  obtain rfl : x = 182 := hx
  show wS _ _ K bb_304 [182, a, b, c, 0] h _
  generalize evF xs L ck K cW g_M n = F at c198 c236 ⊢
  unfold bb_304
  simp only [wf_4, wf_40, wf_5, wf_50, wf_6, wl_1, wt_1, wu_1, wa_1, wl_4, wt_4, wu_4, wa_4, wl_5, wt_5, wu_5, wa_5, wl_6, wt_6, wu_6, wa_6, wl_9, wt_9, wu_9, wa_9, wl_10, wt_10, wu_10, wa_10, wl_11, wt_11, wu_11, wa_11, wl_13, wt_13, wu_13, wa_13, wl_14, wt_14, wu_14, wa_14, wl_15, wt_15, wu_15, wa_15, wl_16, wt_16, wu_16, wa_16, wl_17, wt_17, wu_17, wa_17, wl_20, wt_20, wu_20, wa_20, wl_21, wt_21, wu_21, wa_21, wl_22, wt_22, wu_22, wa_22, wl_23, wt_23, wu_23, wa_23, wl_24, wt_24, wu_24, wa_24, wl_26, wt_26, wu_26, wa_26, wl_27, wt_27, wu_27, wa_27, wl_28, wt_28, wu_28, wa_28, we_1, we_3, we_10, we_14, we_15, we_16, we_17, we_18, we_20, we_21, we_22, we_24, we_25, we_26, we_27, we_28, we_30, we_31, we_32, wc_20, wc_21, wc_22, wc_24, wc_25, wc_26, wc_27, wc_3, wc_4, wc_7, wc_28, wc_32, ws_1, ws_2, ws_3, ws_4, ws_9, ws_10, ws_11, ws_14, ws_15, ws_16, ws_27, ws_17, ws_20, ws_28, kc_0, kc_1, kn_1, kc_2, kn_2, kc_3, kc_4, kc_5, kc_6, kc_7, kc_8, kc_9, kc_10, kc_12, kc_13, kc_14, kc_16, kc_17, kc_18, kc_19, kc_20, kc_21, kc_22, kc_24, kc_28, kc_30, kc_32, kc_37, kc_40, kc_41, kc_42, kc_43, kc_45, kc_48, kc_56, kc_57, kc_59, kc_60, kc_61, kc_64, kc_73, kc_78, kc_91, kc_95, kc_96, kc_97, kc_98, kc_99, kc_100, kc_112, kc_122, kc_125, kc_126, kc_150, kc_162, kc_163, kc_168, kc_186, kc_190, kc_200, kc_250, kc_255, kc_355, kc_356, kc_404, kc_405, kc_429, kc_573, kc_999, kc_1000, kc_1002, kc_1100, kc_1891, kc_2200, kc_4719, kc_4869, kc_4881, kc_5148, kc_9999, kn_9999, kc_10000, kc_12345, kc_19741, kc_25433, kc_65536, kc_320403, kc_628412, kc_629093, kc_660401, kc_679843, kc_918640, kc_979410, kc_1178088, kc_6232410, kc_24644941, kc_36238189, kc_38270444, kc_392531318, kc_425693491, kc_1103515245, kc_1342154595, kc_2147483648, kc_42328242873, kc_891704255789, kc_1722105685577, kc_1858726030364, ct_0, ct_1, ct_2, ct_3, ct_4, ct_5, cf_0, cf_1, cf_2, cf_3, cf_4, cf_5, w_ty6, w_ty7, m_sv, m_z0, m_hd, m_g0, m_gs, m_s0, m_ss, m_ap, m_an, forall_const, true_and, and_true, ne_eq, not_true_eq_false, not_false_eq_true, false_implies, true_implies, implies_true, eq_self, reduceCtorEq, Nat.reduceDiv, Nat.reduceMod, Int.reduceToNat, or_true, true_or, or_false, false_or, or_self, m_it, m_if, m_c1, m_01, m_02, m_03, m_04, m_10, m_12, m_13, m_14, m_20, m_21, m_23, m_24, m_30, m_31, m_32, m_34, m_40, m_41, m_42, m_43]
  obtain ⟨z1, z2⟩ := th0 hQ hJ
  obtain ⟨r, h1, a1_w, a2, a3, a4, a5⟩ := c236 [182, a] _ z1 (by rw [rp_236]; exact ⟨rfl, ha_w, trivial⟩)
  rw [rr_236] at a4
  obtain ⟨v, rfl, -⟩ := IL.one a4
  have no : ∀ h', QK P (r_T 0) J h' → KR (r_T 0) h h' → QK P (r_T 0) J h' ∧ KR (r_T 0) h h' ∧ IL P [(1, 0, 1)] [0] := fun h' k1_w k2 => ⟨k1_w, k2, ⟨by decide, by decide, in_0⟩, trivial⟩
  refine ⟨[v], h1, a1_w, fun k1_w => ⟨_, h1, c198 b (-9999) 9999 h1, fun k2 => ?_, fun _ => no _ a2 (z2.tr a3)⟩, fun _ => no _ a2 (z2.tr a3)⟩
  have b404 : (0 : Int) ≤ 404 ∧ (404 : Int) < 5148 := by decide
  have k4 : IV P (1, 0, 8) (h1 194 404) := s_cell (j := 0) (i := 404) a2 (r := 6) (x := (404, 405, (1, 0, 8))) rfl (by decide) (by decide) (by decide)
  obtain ⟨m0_w, m1_w, -⟩ := k4
  generalize hM_w : h1 194 404 = M at m0_w m1_w
  refine ⟨b404, fun _ => no _ a2 (z2.tr a3), fun k3 => ?_⟩
  have a6 := a5 k1_w
  rw [ru_236] at a6
  obtain ⟨-, hsl, -⟩ := a6
  obtain ⟨s0, s1_w, s2_w⟩ := hsl
  have e1_w : j_iop 0 405 (j_iop 2 3 M) = 405 + 3 * M := by simp (disch := omega) only [jmul, jadd]
  have e2_w : j_iop 0 (405 + 3 * M) 1 = 405 + 3 * M + 1 := jadd (by omega) (by omega)
  have e3_w : j_iop 0 (405 + 3 * M) 2 = 405 + 3 * M + 2 := jadd (by omega) (by omega)
  rw [e1_w, e2_w, e3_w]
  obtain ⟨q, rfl, hq⟩ : ∃ q : Nat, M = (q : Int) ∧ q < 8 := ⟨M.toNat, by omega, by omega⟩
  have f1_w : (405 + 3 * (q : Int)).toNat = 429 * 0 + (405 + 3 * q) := by omega
  have f2_w : (405 + 3 * (q : Int) + 1).toNat = 429 * 0 + (406 + 3 * q) := by omega
  have f3_w : (405 + 3 * (q : Int) + 2).toNat = 429 * 0 + (407 + 3 * q) := by omega
  rw [f1_w, f2_w, f3_w]
  have all1 : (List.range 8).all (fun k => st_fit (405 + 3 * k) (406 + 3 * k) (1, 0, 11) && st_fit (406 + 3 * k) (407 + 3 * k) iT && st_fit (407 + 3 * k) (408 + 3 * k) (1, 0, 1)) = true := by decide +kernel
  have g1 := List.all_eq_true.mp all1 q (List.mem_range.mpr hq)
  simp only [Bool.and_eq_true] at g1
  obtain ⟨⟨g1, g2⟩, g3_w⟩ := g1
  obtain ⟨y1, y2⟩ := st_QK a2 hJ (j := 0) (i := 405 + 3 * q) (v := a) (by decide) (by omega) (st_fit_ok g1 (by omega) (by omega) ⟨s0, s1_w, s2_w⟩) s2_w
  obtain ⟨y3, y4⟩ := st_QK y1 hJ (j := 0) (i := 406 + 3 * q) (v := b) (by decide) (by omega) (st_fit_ok g2 (by omega) (by omega) hb_w) hb_w.2.2
  have fin_w : ∀ w : Int, 0 ≤ w → w ≤ 1 → QK P (r_T 0) J (j_up (j_up (j_up (j_up h1 194 (429 * 0 + (405 + 3 * q)) a) 194 (429 * 0 + (406 + 3 * q)) b) 194 (429 * 0 + (407 + 3 * q)) w) 194 404 (j_iop 0 (j_up (j_up (j_up h1 194 (429 * 0 + (405 + 3 * q)) a) 194 (429 * 0 + (406 + 3 * q)) b) 194 (429 * 0 + (407 + 3 * q)) w 194 404) 1)) ∧ KR (r_T 0) h (j_up (j_up (j_up (j_up h1 194 (429 * 0 + (405 + 3 * q)) a) 194 (429 * 0 + (406 + 3 * q)) b) 194 (429 * 0 + (407 + 3 * q)) w) 194 404 (j_iop 0 (j_up (j_up (j_up h1 194 (429 * 0 + (405 + 3 * q)) a) 194 (429 * 0 + (406 + 3 * q)) b) 194 (429 * 0 + (407 + 3 * q)) w 194 404) 1)) ∧ IL P [(1, 0, 1)] [1] := by
    intro w w0_w w1_w
    obtain ⟨y5, y6⟩ := st_QK y3 hJ (j := 0) (i := 407 + 3 * q) (v := w) (by decide) (by omega) (st_fit_ok g3_w (by omega) (by omega) ⟨w0_w, w1_w, ⟨by omega, by omega⟩⟩) ⟨by omega, by omega⟩
    rw [up_ne (fun z => by have := z.2; omega), up_ne (fun z => by have := z.2; omega), up_ne (fun z => by have := z.2; omega), hM_w, jadd (by omega) (by omega)]
    obtain ⟨y7, y8⟩ := st_QK y5 hJ (j := 0) (i := 404) (v := (q : Int) + 1) (by decide) (by decide) (st_fit_ok (lo_w := 404) (hi_w := 405) (t := (1, 0, 8)) (by decide +kernel) (by decide) (by decide) ⟨by omega, by omega, ⟨by omega, by omega⟩⟩) ⟨by omega, by omega⟩
    exact ⟨y7, ((((z2.tr a3).tr y2).tr y4).tr y6).tr y8, ⟨by decide, by decide, in_1⟩, trivial⟩
  refine ⟨b404, ⟨by omega, by omega⟩, ⟨by omega, by omega⟩, fun _ => ⟨⟨by omega, by omega⟩, b404, ?_⟩, fun _ => ⟨⟨by omega, by omega⟩, b404, ?_⟩⟩
  · exact fin_w 1 (by decide) (by decide)
  · exact fin_w 0 (by decide) (by decide)
theorem t_311 (hJ : JS (r_T 0) J) (c198 : TotW g (evF xs L ck K cW g_M n)) (c224 : S224 P J g (evF xs L ck K cW g_M n)) : TotR P (r_T 0) J g (evF xs L ck K cW g_M (n + 1)) 311 := by
  refine tot_hand gm_311 rp_311 rr_311 ru_311 fun av h hQ hv => ?_
  obtain ⟨x, a, b, rfl, hx, ha_w, hb_w⟩ := il3 hv
  obtain rfl : x = 182 := hx
  show wS _ _ K bb_311 [182, a, b] h _
  generalize evF xs L ck K cW g_M n = F at c198 c224 ⊢
  unfold bb_311
  simp only [wf_4, wf_40, wf_5, wf_50, wf_6, wl_1, wt_1, wu_1, wa_1, wl_4, wt_4, wu_4, wa_4, wl_5, wt_5, wu_5, wa_5, wl_6, wt_6, wu_6, wa_6, wl_9, wt_9, wu_9, wa_9, wl_10, wt_10, wu_10, wa_10, wl_11, wt_11, wu_11, wa_11, wl_13, wt_13, wu_13, wa_13, wl_14, wt_14, wu_14, wa_14, wl_15, wt_15, wu_15, wa_15, wl_16, wt_16, wu_16, wa_16, wl_17, wt_17, wu_17, wa_17, wl_20, wt_20, wu_20, wa_20, wl_21, wt_21, wu_21, wa_21, wl_22, wt_22, wu_22, wa_22, wl_23, wt_23, wu_23, wa_23, wl_24, wt_24, wu_24, wa_24, wl_26, wt_26, wu_26, wa_26, wl_27, wt_27, wu_27, wa_27, wl_28, wt_28, wu_28, wa_28, we_1, we_3, we_10, we_14, we_15, we_16, we_17, we_18, we_20, we_21, we_22, we_24, we_25, we_26, we_27, we_28, we_30, we_31, we_32, wc_20, wc_21, wc_22, wc_24, wc_25, wc_26, wc_27, wc_3, wc_4, wc_7, wc_28, wc_32, ws_1, ws_2, ws_3, ws_4, ws_9, ws_10, ws_11, ws_14, ws_15, ws_16, ws_27, ws_17, ws_20, ws_28, kc_0, kc_1, kn_1, kc_2, kn_2, kc_3, kc_4, kc_5, kc_6, kc_7, kc_8, kc_9, kc_10, kc_12, kc_13, kc_14, kc_16, kc_17, kc_18, kc_19, kc_20, kc_21, kc_22, kc_24, kc_28, kc_30, kc_32, kc_37, kc_40, kc_41, kc_42, kc_43, kc_45, kc_48, kc_56, kc_57, kc_59, kc_60, kc_61, kc_64, kc_73, kc_78, kc_91, kc_95, kc_96, kc_97, kc_98, kc_99, kc_100, kc_112, kc_122, kc_125, kc_126, kc_150, kc_162, kc_163, kc_168, kc_186, kc_190, kc_200, kc_250, kc_255, kc_355, kc_356, kc_404, kc_405, kc_429, kc_573, kc_999, kc_1000, kc_1002, kc_1100, kc_1891, kc_2200, kc_4719, kc_4869, kc_4881, kc_5148, kc_9999, kn_9999, kc_10000, kc_12345, kc_19741, kc_25433, kc_65536, kc_320403, kc_628412, kc_629093, kc_660401, kc_679843, kc_918640, kc_979410, kc_1178088, kc_6232410, kc_24644941, kc_36238189, kc_38270444, kc_392531318, kc_425693491, kc_1103515245, kc_1342154595, kc_2147483648, kc_42328242873, kc_891704255789, kc_1722105685577, kc_1858726030364, ct_0, ct_1, ct_2, ct_3, ct_4, ct_5, cf_0, cf_1, cf_2, cf_3, cf_4, cf_5, w_ty6, w_ty7, m_sv, m_z0, m_hd, m_g0, m_gs, m_s0, m_ss, m_ap, m_an, forall_const, true_and, and_true, ne_eq, not_true_eq_false, not_false_eq_true, false_implies, true_implies, implies_true, eq_self, reduceCtorEq, Nat.reduceDiv, Nat.reduceMod, Int.reduceToNat, or_true, true_or, or_false, false_or, or_self, m_it, m_if, m_c1, m_01, m_02, m_03, m_04, m_10, m_12, m_13, m_14, m_20, m_21, m_23, m_24, m_30, m_31, m_32, m_34, m_40, m_41, m_42, m_43]
  obtain ⟨z1, z2⟩ := th0 hQ hJ
  generalize j_up h 182 0 0 = h1 at z1 z2 ⊢
  have no : QK P (r_T 0) J h1 ∧ KR (r_T 0) h h1 ∧ IL P [(1, 0, 1)] [0] := ⟨z1, z2, ⟨by decide, by decide, in_0⟩, trivial⟩
  refine ⟨_, h1, c198 a 0 1 h1, fun k1_w => ?_, fun _ => no⟩
  simp only [m_hd] at k1_w
  have k2 := b_ne k1_w
  rw [Bool.and_eq_true, decide_eq_true_eq, decide_eq_true_eq] at k2
  have ba_w : 0 ≤ a ∧ a < 2 := ⟨k2.1, by omega⟩
  have w9 : w_ty 9 1 = 1 := by decide
  rw [w9]
  have hH : HT g_fk a_g3 (j_up h1 195 a.toNat 1) := by
    have hk : r_kd 195 = 100 := by decide +kernel
    have h3 := (((r_tab 0).2.2.1 195 (by decide) (by decide)).2.2.2 a.toNat).trans hk
    exact z1.1.up (fun e => absurd (h3.symm.trans e) (by decide)) (fun e => absurd (h3.symm.trans e) (by decide)) (fun _ => Or.inr rfl)
  obtain ⟨z3, z4⟩ := un_QK (q := 195) (i := a.toNat) (v := 1) (t := (1, 0, 1)) z1 hJ (by decide +kernel) (by decide) (by decide +kernel) ⟨by decide, by decide, in_1⟩ hH
  have e1_w : j_iop 2 429 (j_iop 0 1 a) = 429 * ((1 + a.toNat : Nat) : Int) := by
    simp (disch := omega) only [jmul, jadd]
    omega
  rw [e1_w]
  have yes_w : ∀ (i j : Nat) (u : XH → Int), i < 12 → j < 12 → (∀ h2, QK P (r_T 0) J h2 → 0 ≤ u h2 ∧ u h2 ≤ 8) → ∃ r h2, F 224 [182, 429 * (i : Int), 429 * (j : Int), 429] ((a_g3, g), j_up h1 195 a.toNat 1) = some (1, r, ((a_g3, g), h2)) ∧ QK P (r_T 0) J (j_up h2 182 18 (u h2)) ∧ KR (r_T 0) h (j_up h2 182 18 (u h2)) ∧ IL P [(1, 0, 1)] [1] := by
    intro i j u hi_w hj hu
    obtain ⟨h2, x1_w, x2_w, x3, -⟩ := c224 _ i j 429 z3 hi_w hj (by decide) (by decide)
    obtain ⟨u0, u1⟩ := hu h2 x2_w
    obtain ⟨x4_w, x5_w⟩ := fd_QK x2_w hJ (k := 18) (v := u h2) (Or.inl rfl) ⟨u0, u1, ⟨by omega, by omega⟩⟩
    exact ⟨[], h2, x1_w, x4_w, ((z2.tr z4).tr x3).tr x5_w, ⟨by decide, by decide, in_1⟩, trivial⟩
  have back : ¬b = 0 → ∃ r h2, F 224 [182, 429 * ((1 + a.toNat : Nat) : Int), 0, 429] ((a_g3, g), j_up h1 195 a.toNat 1) = some (1, r, ((a_g3, g), h2)) ∧ (¬b = 0 → QK P (r_T 0) J (j_up h2 182 18 0) ∧ KR (r_T 0) h (j_up h2 182 18 0) ∧ IL P [(1, 0, 1)] [1]) ∧ (b = 0 → QK P (r_T 0) J (j_up h2 182 18 (h2 182 18)) ∧ KR (r_T 0) h (j_up h2 182 18 (h2 182 18)) ∧ IL P [(1, 0, 1)] [1]) := fun hb0 => by
    obtain ⟨r, h2, y1, y2⟩ := yes_w (1 + a.toNat) 0 (fun _ => 0) (by omega) (by decide) (fun _ _ => ⟨by decide, by decide⟩)
    exact ⟨r, h2, y1, fun _ => y2, fun k => absurd k hb0⟩
  have lay : b = 0 → ∃ r h2, F 224 [182, 0, 429 * ((1 + a.toNat : Nat) : Int), 429] ((a_g3, g), j_up h1 195 a.toNat 1) = some (1, r, ((a_g3, g), h2)) ∧ (¬b = 0 → QK P (r_T 0) J (j_up h2 182 18 0) ∧ KR (r_T 0) h (j_up h2 182 18 0) ∧ IL P [(1, 0, 1)] [1]) ∧ (b = 0 → QK P (r_T 0) J (j_up h2 182 18 (h2 182 18)) ∧ KR (r_T 0) h (j_up h2 182 18 (h2 182 18)) ∧ IL P [(1, 0, 1)] [1]) := fun hb0 => by
    obtain ⟨r, h2, y1, y2⟩ := yes_w 0 (1 + a.toNat) (fun h2 => h2 182 18) (by decide) (by omega) (fun h2 k => q_undos k)
    exact ⟨r, h2, y1, fun k => absurd hb0 k, fun _ => y2⟩
  refine ⟨fun hb0 => ⟨ba_w, fun _ => ⟨ba_w, fun _ => ⟨fun _ => back hb0, fun k => absurd k hb0⟩, fun k => absurd k hb0⟩, fun _ => no⟩, fun hb0 => ⟨ba_w, fun k => absurd hb0 k, fun _ => ⟨fun k => absurd hb0 k, fun _ => lay hb0⟩⟩⟩
end HAA
end
section
/-! ===== the reference's methods by hand_w: days, who, judged ===== -/
def u310 : SX := (sx 12 (sx 20 (sx 3 (sv 5) z0 z0) (sx 32 (sx 30 (sx 3 z0 z0 z0) (sx 31 z0 z0 z0) z0) (sv 225) z0) (sv 2)) (sx 20 (sx 3 (sv 4) (sx 14 (sx 3 (sv 4) z0 z0) (sx 28 (sx 21 (sx 32 (sx 30 (sx 3 z0 z0 z0) (sx 30 (sx 1 (sv 4719) (sv 1) z0) (sx 30 (sx 3 (sv 5) z0 z0) (sx 31 z0 z0 z0) z0) z0) z0) (sv 285) z0) z0 (sv 1)) (sx 1 (sv 1) (sv 1) z0) (sx 1 z0 (sv 1) z0)) z0) z0) z0 z0) (sx 4 (sv 5) (sv 1) z0))
theorem ub_310 : bb_310 = (sx 2 (sx 10 (sx 27 (sx 24 (sx 32 (sx 30 (sx 3 z0 z0 z0) (sx 30 (sx 25 (sx 25 (sx 24 (sx 32 (sx 30 (sx 3 (sv 1) z0 z0) (sx 30 (sx 1 z0 (sv 1) z0) (sx 30 (sx 1 (sv 9999) (sv 1) z0) (sx 31 z0 z0 z0) z0) z0) z0) (sv 198) z0) z0 z0) (sx 24 (sx 32 (sx 30 (sx 3 (sv 2) z0 z0) (sx 30 (sx 1 (sv 1) (sv 1) z0) (sx 30 (sx 1 (sv 60) (sv 1) z0) (sx 31 z0 z0 z0) z0) z0) z0) (sv 198) z0) z0 z0) z0) (sx 24 (sx 32 (sx 30 (sx 3 (sv 3) z0 z0) (sx 30 (sx 1 z0 (sv 1) z0) (sx 30 (sx 1 (sv 2) (sv 1) z0) (sx 31 z0 z0 z0) z0) z0) z0) (sv 198) z0) z0 z0) z0) (sx 31 z0 z0 z0) z0) z0) (sv 274) z0) z0 z0) z0 z0) (sx 20 (sx 16 (sx 1 z0 (sv 1) z0) z0 z0) z0 z0) z0) (sx 2 (sx 9 (sx 32 (sx 30 (sx 3 z0 z0 z0) (sx 31 z0 z0 z0) z0) (sv 298) z0) z0 z0) (sx 2 (sx 5 (sx 3 z0 z0 z0) (sx 18 (sx 3 (sv 1) z0 z0) z0 (sv 2)) (sv 29)) (sx 2 (sx 20 (sx 2 (sx 3 (sv 4) (sx 1 z0 (sv 1) z0) z0) (sx 12 (sx 25 (sx 25 (sx 20 (sx 3 (sv 4) z0 z0) (sx 3 (sv 2) z0 z0) (sv 2)) (sx 21 (sx 32 (sx 30 (sx 3 z0 z0 z0) (sx 31 z0 z0 z0) z0) (sv 228) z0) z0 (sv 4)) z0) (sx 21 (sx 32 (sx 30 (sx 3 z0 z0 z0) (sx 31 z0 z0 z0) z0) (sv 225) z0) z0 (sv 4)) z0) (sx 20 (sx 2 (sx 3 (sv 5) (sx 32 (sx 30 (sx 3 z0 z0 z0) (sx 30 (sx 32 (sx 30 (sx 3 z0 z0 z0) (sx 31 z0 z0 z0) z0) (sv 228) z0) (sx 31 z0 z0 z0) z0) z0) (sv 309) z0) z0) (sx 2 (sx 3 (sv 6) (sx 32 (sx 30 (sx 3 z0 z0 z0) (sx 30 (sx 32 (sx 30 (sx 3 z0 z0 z0) (sx 31 z0 z0 z0) z0) (sv 225) z0) (sx 31 z0 z0 z0) z0) z0) (sv 309) z0) z0) (sx 9 (sx 32 (sx 30 (sx 3 z0 z0 z0) (sx 30 (sx 1 (sv 4719) (sv 1) z0) (sx 30 (sx 3 (sv 5) z0 z0) (sx 30 (sx 3 (sv 6) z0 z0) (sx 30 (sx 32 (sx 30 (sx 3 z0 z0 z0) (sx 30 (sx 1 (sv 200) (sv 1) z0) (sx 31 z0 z0 z0) z0) z0) (sv 309) z0) (sx 31 z0 z0 z0) z0) z0) z0) z0) z0) (sv 264) z0) z0 z0) z0) z0) z0 z0) (sx 4 (sv 4) (sv 1) z0)) z0) z0 z0) (sx 2 (sx 10 (sx 21 (sx 3 (sv 3) z0 z0) z0 z0) (sx 20 (sx 16 (sx 32 (sx 30 (sx 3 z0 z0 z0) (sx 30 (sx 1 (sv 4719) (sv 1) z0) (sx 31 z0 z0 z0) z0) z0) (sv 259) z0) z0 z0) z0 z0) z0) (sx 2 (sx 3 (sv 4) (sx 1 z0 (sv 1) z0) z0) (sx 2 (sx 20 (sx 2 (sx 3 (sv 5) (sx 1 z0 (sv 1) z0) z0) u310 z0) z0 z0) (sx 16 (sx 28 (sx 20 (sx 3 (sv 3) z0 z0) (sx 1 (sv 1) (sv 1) z0) z0) (sx 3 (sv 4) z0 z0) (sx 32 (sx 30 (sx 3 z0 z0 z0) (sx 30 (sx 1 (sv 4719) (sv 1) z0) (sx 31 z0 z0 z0) z0) z0) (sv 287) z0)) z0 z0) z0) z0) z0) z0) z0) z0) z0) := rfl
def S225 (g : Nat × Nat) (F : XP) : Prop := ∀ (h : XH), F 225 [182] ((a_g3, g), h) = some (1, [h 188 0], ((a_g3, g), h))
section HAB
variable {P : Int × Int} {g : Nat × Nat} {xs : Nat → Int} {L K n : Nat} {ck : Nat → List Nat} {cW : Nat → Nat → Int} {h : XH} {J : XH → Prop}
theorem s_225 : S225 g (evF xs L ck K cW g_M (n + 1)) := fun h => by
  obtain ⟨r, h', e1_w, rfl, rfl⟩ := tr_of (xs := xs) (L := L) (ck := ck) (cW := cW) (n := n) (K := K) (g := g) (h := h) (av := [182]) gm_225 (B := fun r h' => r = [h 188 0] ∧ h' = h) (by
    show wS _ _ K bb_225 [182] h _
    generalize evF xs L ck K cW g_M n = F
    unfold bb_225
    simp only [wf_4, wf_40, wf_5, wf_50, wf_6, wl_1, wt_1, wu_1, wa_1, wl_4, wt_4, wu_4, wa_4, wl_5, wt_5, wu_5, wa_5, wl_6, wt_6, wu_6, wa_6, wl_9, wt_9, wu_9, wa_9, wl_10, wt_10, wu_10, wa_10, wl_11, wt_11, wu_11, wa_11, wl_13, wt_13, wu_13, wa_13, wl_14, wt_14, wu_14, wa_14, wl_15, wt_15, wu_15, wa_15, wl_16, wt_16, wu_16, wa_16, wl_17, wt_17, wu_17, wa_17, wl_20, wt_20, wu_20, wa_20, wl_21, wt_21, wu_21, wa_21, wl_22, wt_22, wu_22, wa_22, wl_23, wt_23, wu_23, wa_23, wl_24, wt_24, wu_24, wa_24, wl_26, wt_26, wu_26, wa_26, wl_27, wt_27, wu_27, wa_27, wl_28, wt_28, wu_28, wa_28, we_1, we_3, we_10, we_14, we_15, we_16, we_17, we_18, we_20, we_21, we_22, we_24, we_25, we_26, we_27, we_28, we_30, we_31, we_32, wc_20, wc_21, wc_22, wc_24, wc_25, wc_26, wc_27, wc_3, wc_4, wc_7, wc_28, wc_32, ws_1, ws_2, ws_3, ws_4, ws_9, ws_10, ws_11, ws_14, ws_15, ws_16, ws_27, ws_17, ws_20, ws_28, kc_0, kc_1, kn_1, kc_2, kn_2, kc_3, kc_4, kc_5, kc_6, kc_7, kc_8, kc_9, kc_10, kc_12, kc_13, kc_14, kc_16, kc_17, kc_18, kc_19, kc_20, kc_21, kc_22, kc_24, kc_28, kc_30, kc_32, kc_37, kc_40, kc_41, kc_42, kc_43, kc_45, kc_48, kc_56, kc_57, kc_59, kc_60, kc_61, kc_64, kc_73, kc_78, kc_91, kc_95, kc_96, kc_97, kc_98, kc_99, kc_100, kc_112, kc_122, kc_125, kc_126, kc_150, kc_162, kc_163, kc_168, kc_186, kc_190, kc_200, kc_250, kc_255, kc_355, kc_356, kc_404, kc_405, kc_429, kc_573, kc_999, kc_1000, kc_1002, kc_1100, kc_1891, kc_2200, kc_4719, kc_4869, kc_4881, kc_5148, kc_9999, kn_9999, kc_10000, kc_12345, kc_19741, kc_25433, kc_65536, kc_320403, kc_628412, kc_629093, kc_660401, kc_679843, kc_918640, kc_979410, kc_1178088, kc_6232410, kc_24644941, kc_36238189, kc_38270444, kc_392531318, kc_425693491, kc_1103515245, kc_1342154595, kc_2147483648, kc_42328242873, kc_891704255789, kc_1722105685577, kc_1858726030364, ct_0, ct_1, ct_2, ct_3, ct_4, ct_5, cf_0, cf_1, cf_2, cf_3, cf_4, cf_5, w_ty6, w_ty7, m_sv, m_z0, m_hd, m_g0, m_gs, m_s0, m_ss, m_ap, m_an, forall_const, true_and, and_true, ne_eq, not_true_eq_false, not_false_eq_true, false_implies, true_implies, implies_true, eq_self, reduceCtorEq, Nat.reduceDiv, Nat.reduceMod, Int.reduceToNat, or_true, true_or, or_false, false_or, or_self, m_it, m_if, m_c1, m_01, m_02, m_03, m_04, m_10, m_12, m_13, m_14, m_20, m_21, m_23, m_24, m_30, m_31, m_32, m_34, m_40, m_41, m_42, m_43]
    decide)
  exact e1_w
theorem q_slots (hQ : QK P (r_T 0) J h) : 0 ≤ h 188 0 ∧ h 188 0 ≤ 12 := by
  have k : IV P (1, 0, 12) (h 188 0) := q_cell hQ (q := 188) (r := 0) (x := (0, 1, (1, 0, 12))) (by decide) rfl rfl (by decide) (by decide)
  exact ⟨k.1, k.2.1⟩
theorem iv_trial : IV P (3, 0, 0) 4719 := ⟨⟨by decide, by decide⟩, 11, by decide, by decide, by decide⟩
theorem w_310 {F : XP} (hK_w : 4294967300 ≤ K) (s225 : S225 g F) (c285 : TotR P (r_T 0) J g F 285) {a b c y : Int} {h0 : XH} (hQ : QK P (r_T 0) J h) (hk : KR (r_T 0) h0 h) {R : WR} (hR : ∀ (x s : Int) (h' : XH), QK P (r_T 0) J h' → KR (r_T 0) h0 h' → InI x → R 0 [] [182, a, b, c, x, s, y] h') : wS (a_g3, g) F K u310 [182, a, b, c, 0, 0, y] h R := by
  unfold u310
  refine w_lp (fun en h' => ∃ x s : Int, en = [182, a, b, c, x, s, y] ∧ 0 ≤ s ∧ s ≤ 12 ∧ InI x ∧ QK P (r_T 0) J h' ∧ KR (r_T 0) h0 h') (fun en _ => (12 - en.getD 5 0).toNat) ⟨0, 0, rfl, by omega, by omega, in_0, hQ, hk⟩ ?_
  rintro en h1 ⟨x, s, rfl, s0, s1_w, hx, q1_w, q2_w⟩
  refine ⟨?_, ?_⟩
  · show (12 - s).toNat < K
    omega
  simp only [wf_4, wf_40, wf_5, wf_50, wf_6, wl_1, wt_1, wu_1, wa_1, wl_4, wt_4, wu_4, wa_4, wl_5, wt_5, wu_5, wa_5, wl_6, wt_6, wu_6, wa_6, wl_9, wt_9, wu_9, wa_9, wl_10, wt_10, wu_10, wa_10, wl_11, wt_11, wu_11, wa_11, wl_13, wt_13, wu_13, wa_13, wl_14, wt_14, wu_14, wa_14, wl_15, wt_15, wu_15, wa_15, wl_16, wt_16, wu_16, wa_16, wl_17, wt_17, wu_17, wa_17, wl_20, wt_20, wu_20, wa_20, wl_21, wt_21, wu_21, wa_21, wl_22, wt_22, wu_22, wa_22, wl_23, wt_23, wu_23, wa_23, wl_24, wt_24, wu_24, wa_24, wl_26, wt_26, wu_26, wa_26, wl_27, wt_27, wu_27, wa_27, wl_28, wt_28, wu_28, wa_28, we_1, we_3, we_10, we_14, we_15, we_16, we_17, we_18, we_20, we_21, we_22, we_24, we_25, we_26, we_27, we_28, we_30, we_31, we_32, wc_20, wc_21, wc_22, wc_24, wc_25, wc_26, wc_27, wc_3, wc_4, wc_7, wc_28, wc_32, ws_1, ws_2, ws_3, ws_4, ws_9, ws_10, ws_11, ws_14, ws_15, ws_16, ws_27, ws_17, ws_20, ws_28, kc_0, kc_1, kn_1, kc_2, kn_2, kc_3, kc_4, kc_5, kc_6, kc_7, kc_8, kc_9, kc_10, kc_12, kc_13, kc_14, kc_16, kc_17, kc_18, kc_19, kc_20, kc_21, kc_22, kc_24, kc_28, kc_30, kc_32, kc_37, kc_40, kc_41, kc_42, kc_43, kc_45, kc_48, kc_56, kc_57, kc_59, kc_60, kc_61, kc_64, kc_73, kc_78, kc_91, kc_95, kc_96, kc_97, kc_98, kc_99, kc_100, kc_112, kc_122, kc_125, kc_126, kc_150, kc_162, kc_163, kc_168, kc_186, kc_190, kc_200, kc_250, kc_255, kc_355, kc_356, kc_404, kc_405, kc_429, kc_573, kc_999, kc_1000, kc_1002, kc_1100, kc_1891, kc_2200, kc_4719, kc_4869, kc_4881, kc_5148, kc_9999, kn_9999, kc_10000, kc_12345, kc_19741, kc_25433, kc_65536, kc_320403, kc_628412, kc_629093, kc_660401, kc_679843, kc_918640, kc_979410, kc_1178088, kc_6232410, kc_24644941, kc_36238189, kc_38270444, kc_392531318, kc_425693491, kc_1103515245, kc_1342154595, kc_2147483648, kc_42328242873, kc_891704255789, kc_1722105685577, kc_1858726030364, ct_0, ct_1, ct_2, ct_3, ct_4, ct_5, cf_0, cf_1, cf_2, cf_3, cf_4, cf_5, w_ty6, w_ty7, m_sv, m_z0, m_hd, m_g0, m_gs, m_s0, m_ss, m_ap, m_an, forall_const, true_and, and_true, ne_eq, not_true_eq_false, not_false_eq_true, false_implies, true_implies, implies_true, eq_self, reduceCtorEq, Nat.reduceDiv, Nat.reduceMod, Int.reduceToNat, or_true, true_or, or_false, false_or, or_self, m_it, m_if, m_c1, m_01, m_02, m_03, m_04, m_10, m_12, m_13, m_14, m_20, m_21, m_23, m_24, m_30, m_31, m_32, m_34, m_40, m_41, m_42, m_43]
  have u := q_slots q1_w
  refine ⟨_, h1, s225 h1, fun hs => ?_, fun _ => hR x s h1 q1_w q2_w hx⟩
  simp only [m_hd] at hs
  obtain ⟨v, h2, a1_w, a2, a3, -⟩ := use1 (av := [182, 4719, s]) c285 rp_285 rr_285 q1_w ⟨rfl, iv_trial, ⟨s0, by omega, ⟨by omega, by omega⟩⟩, trivial⟩
  rw [jinc (by omega) (by omega)]
  refine ⟨[v], h2, a1_w, fun _ => ⟨⟨_, s + 1, rfl, by omega, by omega, iop_in _ _ _, a2, q2_w.tr a3⟩, ?_⟩, fun _ => ⟨⟨_, s + 1, rfl, by omega, by omega, iop_in _ _ _, a2, q2_w.tr a3⟩, ?_⟩⟩
  · show (12 - (s + 1)).toNat < (12 - s).toNat
    omega
  · show (12 - (s + 1)).toNat < (12 - s).toNat
    omega
theorem t_310 (hJ : JS (r_T 0) J) (hK_w : 4294967300 ≤ K) (c198 : TotW g (evF xs L ck K cW g_M n)) (c274 : TotB P (r_T 0) J g (evF xs L ck K cW g_M n)) (s225 : S225 g (evF xs L ck K cW g_M n)) (c228 : TotR P (r_T 0) J g (evF xs L ck K cW g_M n) 228) (c298 : TotR P (r_T 0) J g (evF xs L ck K cW g_M n) 298) (c309 : S309 P J g (evF xs L ck K cW g_M n)) (c264 : TotR P (r_T 0) J g (evF xs L ck K cW g_M n) 264) (c259 : TotR P (r_T 0) J g (evF xs L ck K cW g_M n) 259) (c285 : TotR P (r_T 0) J g (evF xs L ck K cW g_M n) 285) (c287 : TotR P (r_T 0) J g (evF xs L ck K cW g_M n) 287) : TotR P (r_T 0) J g (evF xs L ck K cW g_M (n + 1)) 310 := by
  refine tot_hand gm_310 rp_310 rr_310 ru_310 fun av h hQ hv => ?_
  obtain ⟨x, a, b, c, rfl, hx, ha_w, hb_w, hc_w⟩ := il4 hv
  obtain rfl : x = 182 := hx
  show wS _ _ K bb_310 [182, a, b, c, 0, 0, 0] h _
  generalize evF xs L ck K cW g_M n = F at c198 c274 s225 c228 c298 c309 c264 c259 c285 c287 ⊢
  rw [ub_310]
  simp only [wf_4, wf_40, wf_5, wf_50, wf_6, wl_1, wt_1, wu_1, wa_1, wl_4, wt_4, wu_4, wa_4, wl_5, wt_5, wu_5, wa_5, wl_6, wt_6, wu_6, wa_6, wl_9, wt_9, wu_9, wa_9, wl_10, wt_10, wu_10, wa_10, wl_11, wt_11, wu_11, wa_11, wl_13, wt_13, wu_13, wa_13, wl_14, wt_14, wu_14, wa_14, wl_15, wt_15, wu_15, wa_15, wl_16, wt_16, wu_16, wa_16, wl_17, wt_17, wu_17, wa_17, wl_20, wt_20, wu_20, wa_20, wl_21, wt_21, wu_21, wa_21, wl_22, wt_22, wu_22, wa_22, wl_23, wt_23, wu_23, wa_23, wl_24, wt_24, wu_24, wa_24, wl_26, wt_26, wu_26, wa_26, wl_27, wt_27, wu_27, wa_27, wl_28, wt_28, wu_28, wa_28, we_1, we_3, we_10, we_14, we_15, we_16, we_17, we_18, we_20, we_21, we_22, we_24, we_25, we_26, we_27, we_28, we_30, we_31, we_32, wc_20, wc_21, wc_22, wc_24, wc_25, wc_26, wc_27, wc_3, wc_4, wc_7, wc_28, wc_32, ws_1, ws_2, ws_3, ws_4, ws_9, ws_10, ws_11, ws_14, ws_15, ws_16, ws_27, ws_17, ws_20, ws_28, kc_0, kc_1, kn_1, kc_2, kn_2, kc_3, kc_4, kc_5, kc_6, kc_7, kc_8, kc_9, kc_10, kc_12, kc_13, kc_14, kc_16, kc_17, kc_18, kc_19, kc_20, kc_21, kc_22, kc_24, kc_28, kc_30, kc_32, kc_37, kc_40, kc_41, kc_42, kc_43, kc_45, kc_48, kc_56, kc_57, kc_59, kc_60, kc_61, kc_64, kc_73, kc_78, kc_91, kc_95, kc_96, kc_97, kc_98, kc_99, kc_100, kc_112, kc_122, kc_125, kc_126, kc_150, kc_162, kc_163, kc_168, kc_186, kc_190, kc_200, kc_250, kc_255, kc_355, kc_356, kc_404, kc_405, kc_429, kc_573, kc_999, kc_1000, kc_1002, kc_1100, kc_1891, kc_2200, kc_4719, kc_4869, kc_4881, kc_5148, kc_9999, kn_9999, kc_10000, kc_12345, kc_19741, kc_25433, kc_65536, kc_320403, kc_628412, kc_629093, kc_660401, kc_679843, kc_918640, kc_979410, kc_1178088, kc_6232410, kc_24644941, kc_36238189, kc_38270444, kc_392531318, kc_425693491, kc_1103515245, kc_1342154595, kc_2147483648, kc_42328242873, kc_891704255789, kc_1722105685577, kc_1858726030364, ct_0, ct_1, ct_2, ct_3, ct_4, ct_5, cf_0, cf_1, cf_2, cf_3, cf_4, cf_5, w_ty6, w_ty7, m_sv, m_z0, m_hd, m_g0, m_gs, m_s0, m_ss, m_ap, m_an, forall_const, true_and, and_true, ne_eq, not_true_eq_false, not_false_eq_true, false_implies, true_implies, implies_true, eq_self, reduceCtorEq, Nat.reduceDiv, Nat.reduceMod, Int.reduceToNat, or_true, true_or, or_false, false_or, or_self, m_it, m_if, m_c1, m_01, m_02, m_03, m_04, m_10, m_12, m_13, m_14, m_20, m_21, m_23, m_24, m_30, m_31, m_32, m_34, m_40, m_41, m_42, m_43]
  have no : ∀ h', QK P (r_T 0) J h' → KR (r_T 0) h h' → QK P (r_T 0) J h' ∧ KR (r_T 0) h h' ∧ IL P [iT] [0] := fun h' k1_w k2 => ⟨k1_w, k2, IV.top in_0, trivial⟩
  obtain ⟨h0, y1, y2, y3⟩ := c274 0 h (Or.inl rfl) hQ
  refine ⟨_, h, c198 a 0 9999 h, fun k1_w => ⟨_, h, c198 b 1 60 h, fun k2 => ⟨_, h, c198 c 0 2 h, fun k3 => ?_, fun _ => ⟨[0], h0, y1, fun k => absurd rfl k, fun _ => no _ y2 y3⟩⟩, fun _ => ⟨[0], h0, y1, fun k => absurd rfl k, fun _ => no _ y2 y3⟩⟩, fun _ => ⟨[0], h0, y1, fun k => absurd rfl k, fun _ => no _ y2 y3⟩⟩
  have k1_w := b_ne k1_w
  have k2 := b_ne k2
  rw [Bool.and_eq_true, decide_eq_true_eq, decide_eq_true_eq] at k1_w k2
  obtain ⟨h1, z1, z2, z3⟩ := c274 1 h (Or.inr rfl) hQ
  refine ⟨[1], h1, z1, fun _ => ?_, fun k => absurd k (by decide)⟩
  obtain ⟨h2, a1_w, a2, a3⟩ := use0 c298 rp_298 rr_298 z2 il_this
  refine ⟨[], h2, a1_w, ?_⟩
  obtain ⟨q1_w, q2_w⟩ := fd_QK a2 hJ (k := 29) (v := a) (Or.inr rfl) ⟨k1_w.1, by omega, ⟨by omega, by omega⟩⟩
  have fin_w : ∀ (x s y : Int) (h' : XH), QK P (r_T 0) J h' → KR (r_T 0) h h' → InI x → (c = 1 → QK P (r_T 0) J h' ∧ KR (r_T 0) h h' ∧ IL P [iT] [x]) ∧ (¬c = 1 → ∃ r h2, F 287 [182, 4719] ((a_g3, g), h') = some (1, r, ((a_g3, g), h2)) ∧ QK P (r_T 0) J h2 ∧ KR (r_T 0) h h2 ∧ IL P [iT] r) := by
    intro x s y h' k4 k5 k6
    refine ⟨fun _ => ⟨k4, k5, IV.top k6, trivial⟩, fun _ => ?_⟩
    obtain ⟨v, h3, x1_w, x2_w, x3, x4_w⟩ := use1 (av := [182, 4719]) c287 rp_287 rr_287 k4 ⟨rfl, iv_trial, trivial⟩
    exact ⟨[v], h3, x1_w, x2_w, k5.tr x3, x4_w, trivial⟩
  have all_w : ∀ (h' : XH), QK P (r_T 0) J h' → KR (r_T 0) h h' → ∃ r h2, F 259 [182, 4719] ((a_g3, g), h') = some (1, r, ((a_g3, g), h2)) ∧ QK P (r_T 0) J h2 ∧ KR (r_T 0) h h2 ∧ IL P [iT] r := by
    intro h' k4 k5
    obtain ⟨v, h3, x1_w, x2_w, x3, x4_w⟩ := use1 (av := [182, 4719]) c259 rp_259 rr_259 k4 ⟨rfl, iv_trial, trivial⟩
    exact ⟨[v], h3, x1_w, x2_w, k5.tr x3, x4_w, trivial⟩
  refine w_lp (fun en h' => ∃ m x y : Int, en = [182, a, b, c, m, x, y] ∧ 0 ≤ m ∧ m ≤ 60 ∧ QK P (r_T 0) J h' ∧ KR (r_T 0) h h') (fun en _ => (60 - en.getD 4 0).toNat) ⟨0, 0, 0, rfl, by omega, by omega, q1_w, (z3.tr a3).tr q2_w⟩ ?_
  rintro en h3 ⟨m, x, y, rfl, m0_w, m1_w, q3_w, q4_w⟩
  refine ⟨?_, ?_⟩
  · show (60 - m).toNat < K
    omega
  simp only [wf_4, wf_40, wf_5, wf_50, wf_6, wl_1, wt_1, wu_1, wa_1, wl_4, wt_4, wu_4, wa_4, wl_5, wt_5, wu_5, wa_5, wl_6, wt_6, wu_6, wa_6, wl_9, wt_9, wu_9, wa_9, wl_10, wt_10, wu_10, wa_10, wl_11, wt_11, wu_11, wa_11, wl_13, wt_13, wu_13, wa_13, wl_14, wt_14, wu_14, wa_14, wl_15, wt_15, wu_15, wa_15, wl_16, wt_16, wu_16, wa_16, wl_17, wt_17, wu_17, wa_17, wl_20, wt_20, wu_20, wa_20, wl_21, wt_21, wu_21, wa_21, wl_22, wt_22, wu_22, wa_22, wl_23, wt_23, wu_23, wa_23, wl_24, wt_24, wu_24, wa_24, wl_26, wt_26, wu_26, wa_26, wl_27, wt_27, wu_27, wa_27, wl_28, wt_28, wu_28, wa_28, we_1, we_3, we_10, we_14, we_15, we_16, we_17, we_18, we_20, we_21, we_22, we_24, we_25, we_26, we_27, we_28, we_30, we_31, we_32, wc_20, wc_21, wc_22, wc_24, wc_25, wc_26, wc_27, wc_3, wc_4, wc_7, wc_28, wc_32, ws_1, ws_2, ws_3, ws_4, ws_9, ws_10, ws_11, ws_14, ws_15, ws_16, ws_27, ws_17, ws_20, ws_28, kc_0, kc_1, kn_1, kc_2, kn_2, kc_3, kc_4, kc_5, kc_6, kc_7, kc_8, kc_9, kc_10, kc_12, kc_13, kc_14, kc_16, kc_17, kc_18, kc_19, kc_20, kc_21, kc_22, kc_24, kc_28, kc_30, kc_32, kc_37, kc_40, kc_41, kc_42, kc_43, kc_45, kc_48, kc_56, kc_57, kc_59, kc_60, kc_61, kc_64, kc_73, kc_78, kc_91, kc_95, kc_96, kc_97, kc_98, kc_99, kc_100, kc_112, kc_122, kc_125, kc_126, kc_150, kc_162, kc_163, kc_168, kc_186, kc_190, kc_200, kc_250, kc_255, kc_355, kc_356, kc_404, kc_405, kc_429, kc_573, kc_999, kc_1000, kc_1002, kc_1100, kc_1891, kc_2200, kc_4719, kc_4869, kc_4881, kc_5148, kc_9999, kn_9999, kc_10000, kc_12345, kc_19741, kc_25433, kc_65536, kc_320403, kc_628412, kc_629093, kc_660401, kc_679843, kc_918640, kc_979410, kc_1178088, kc_6232410, kc_24644941, kc_36238189, kc_38270444, kc_392531318, kc_425693491, kc_1103515245, kc_1342154595, kc_2147483648, kc_42328242873, kc_891704255789, kc_1722105685577, kc_1858726030364, ct_0, ct_1, ct_2, ct_3, ct_4, ct_5, cf_0, cf_1, cf_2, cf_3, cf_4, cf_5, w_ty6, w_ty7, m_sv, m_z0, m_hd, m_g0, m_gs, m_s0, m_ss, m_ap, m_an, forall_const, true_and, and_true, ne_eq, not_true_eq_false, not_false_eq_true, false_implies, true_implies, implies_true, eq_self, reduceCtorEq, Nat.reduceDiv, Nat.reduceMod, Int.reduceToNat, or_true, true_or, or_false, false_or, or_self, m_it, m_if, m_c1, m_01, m_02, m_03, m_04, m_10, m_12, m_13, m_14, m_20, m_21, m_23, m_24, m_30, m_31, m_32, m_34, m_40, m_41, m_42, m_43]
  have ex_w := fun (h' : XH) (k4 : QK P (r_T 0) J h') (k5 : KR (r_T 0) h h') {R : WR} hR => w_310 (K := K) (y := y) (a := a) (b := b) (c := c) (R := R) hK_w s225 c285 k4 k5 hR
  obtain ⟨v, h4, b1, b2, b3, b4, b5, b6⟩ := use1 c228 rp_228 rr_228 q3_w il_this
  have u := q_slots b2
  refine ⟨fun hm_w => ⟨[v], h4, b1, fun hv => ⟨_, h4, s225 h4, fun hs => ?_, fun _ => ⟨fun _ => all_w _ b2 (q4_w.tr b3), fun _ => ex_w _ b2 (q4_w.tr b3) (fun x s h' e1_w e2_w e3_w => ?_)⟩⟩, fun _ => ⟨fun _ => all_w _ b2 (q4_w.tr b3), fun _ => ex_w _ b2 (q4_w.tr b3) (fun x s h' e1_w e2_w e3_w => ?_)⟩⟩, fun _ => ⟨fun _ => all_w _ q3_w q4_w, fun _ => ex_w _ q3_w q4_w (fun x s h' e1_w e2_w e3_w => ?_)⟩⟩
  · simp only [m_hd] at hv hs
    obtain ⟨v2, h5, c1_w, c2, c3, c4, c5, c6⟩ := use1 c228 rp_228 rr_228 b2 il_this
    have hv2 : v2 = v := by rw [c4, b4]
    subst hv2
    obtain ⟨w1_w, h6, d1_w, d2_w, d3_w, d4_w, d5⟩ := c309 h5 v2 c2 (by omega) (by omega)
    have u6 := q_slots d2_w
    have e188 : h6 188 0 = h4 188 0 := (d3_w 188 0 rfl).trans (c3 188 0 rfl)
    obtain ⟨w2_w, h7, x1_w, x2_w, x3, x4_w, x5_w⟩ := c309 h6 (h6 188 0) d2_w (by omega) (by omega)
    obtain ⟨w3_w, h8, t1_w, t2_w, t3_w, t4_w, t5_w⟩ := c309 h7 200 x2_w (by decide) (by decide)
    have nm := q_nM t2_w
    obtain ⟨h9, s1_w, s2_w, s3_w⟩ := use0 (av := [182, 4719, w1_w, w2_w, w3_w]) c264 rp_264 rr_264 t2_w ⟨rfl, iv_trial, ⟨d4_w, by omega, by omega⟩, ⟨x4_w, by omega, ⟨by omega, by omega⟩⟩, ⟨by omega, by omega, ⟨by omega, by omega⟩⟩, trivial⟩
    rw [jinc (by omega) (by omega)]
    refine ⟨[v2], h5, c1_w, [w1_w], h6, d1_w, _, h6, s225 h6, [w2_w], h7, x1_w, [w3_w], h8, t1_w, [], h9, s1_w, ⟨m + 1, w1_w, w2_w, rfl, by omega, by omega, s2_w, ((((((q4_w.tr b3).tr c3).tr d3_w).tr x3).tr t3_w).tr s3_w)⟩, ?_⟩
    show (60 - (m + 1)).toNat < (60 - m).toNat
    omega
  · simp only [wf_4, wf_40, wf_5, wf_50, wf_6, wl_1, wt_1, wu_1, wa_1, wl_4, wt_4, wu_4, wa_4, wl_5, wt_5, wu_5, wa_5, wl_6, wt_6, wu_6, wa_6, wl_9, wt_9, wu_9, wa_9, wl_10, wt_10, wu_10, wa_10, wl_11, wt_11, wu_11, wa_11, wl_13, wt_13, wu_13, wa_13, wl_14, wt_14, wu_14, wa_14, wl_15, wt_15, wu_15, wa_15, wl_16, wt_16, wu_16, wa_16, wl_17, wt_17, wu_17, wa_17, wl_20, wt_20, wu_20, wa_20, wl_21, wt_21, wu_21, wa_21, wl_22, wt_22, wu_22, wa_22, wl_23, wt_23, wu_23, wa_23, wl_24, wt_24, wu_24, wa_24, wl_26, wt_26, wu_26, wa_26, wl_27, wt_27, wu_27, wa_27, wl_28, wt_28, wu_28, wa_28, we_1, we_3, we_10, we_14, we_15, we_16, we_17, we_18, we_20, we_21, we_22, we_24, we_25, we_26, we_27, we_28, we_30, we_31, we_32, wc_20, wc_21, wc_22, wc_24, wc_25, wc_26, wc_27, wc_3, wc_4, wc_7, wc_28, wc_32, ws_1, ws_2, ws_3, ws_4, ws_9, ws_10, ws_11, ws_14, ws_15, ws_16, ws_27, ws_17, ws_20, ws_28, kc_0, kc_1, kn_1, kc_2, kn_2, kc_3, kc_4, kc_5, kc_6, kc_7, kc_8, kc_9, kc_10, kc_12, kc_13, kc_14, kc_16, kc_17, kc_18, kc_19, kc_20, kc_21, kc_22, kc_24, kc_28, kc_30, kc_32, kc_37, kc_40, kc_41, kc_42, kc_43, kc_45, kc_48, kc_56, kc_57, kc_59, kc_60, kc_61, kc_64, kc_73, kc_78, kc_91, kc_95, kc_96, kc_97, kc_98, kc_99, kc_100, kc_112, kc_122, kc_125, kc_126, kc_150, kc_162, kc_163, kc_168, kc_186, kc_190, kc_200, kc_250, kc_255, kc_355, kc_356, kc_404, kc_405, kc_429, kc_573, kc_999, kc_1000, kc_1002, kc_1100, kc_1891, kc_2200, kc_4719, kc_4869, kc_4881, kc_5148, kc_9999, kn_9999, kc_10000, kc_12345, kc_19741, kc_25433, kc_65536, kc_320403, kc_628412, kc_629093, kc_660401, kc_679843, kc_918640, kc_979410, kc_1178088, kc_6232410, kc_24644941, kc_36238189, kc_38270444, kc_392531318, kc_425693491, kc_1103515245, kc_1342154595, kc_2147483648, kc_42328242873, kc_891704255789, kc_1722105685577, kc_1858726030364, ct_0, ct_1, ct_2, ct_3, ct_4, ct_5, cf_0, cf_1, cf_2, cf_3, cf_4, cf_5, w_ty6, w_ty7, m_sv, m_z0, m_hd, m_g0, m_gs, m_s0, m_ss, m_ap, m_an, forall_const, true_and, and_true, ne_eq, not_true_eq_false, not_false_eq_true, false_implies, true_implies, implies_true, eq_self, reduceCtorEq, Nat.reduceDiv, Nat.reduceMod, Int.reduceToNat, or_true, true_or, or_false, false_or, or_self, m_it, m_if, m_c1, m_01, m_02, m_03, m_04, m_10, m_12, m_13, m_14, m_20, m_21, m_23, m_24, m_30, m_31, m_32, m_34, m_40, m_41, m_42, m_43]
    exact fin_w x s y h' e1_w e2_w e3_w
  · simp only [wf_4, wf_40, wf_5, wf_50, wf_6, wl_1, wt_1, wu_1, wa_1, wl_4, wt_4, wu_4, wa_4, wl_5, wt_5, wu_5, wa_5, wl_6, wt_6, wu_6, wa_6, wl_9, wt_9, wu_9, wa_9, wl_10, wt_10, wu_10, wa_10, wl_11, wt_11, wu_11, wa_11, wl_13, wt_13, wu_13, wa_13, wl_14, wt_14, wu_14, wa_14, wl_15, wt_15, wu_15, wa_15, wl_16, wt_16, wu_16, wa_16, wl_17, wt_17, wu_17, wa_17, wl_20, wt_20, wu_20, wa_20, wl_21, wt_21, wu_21, wa_21, wl_22, wt_22, wu_22, wa_22, wl_23, wt_23, wu_23, wa_23, wl_24, wt_24, wu_24, wa_24, wl_26, wt_26, wu_26, wa_26, wl_27, wt_27, wu_27, wa_27, wl_28, wt_28, wu_28, wa_28, we_1, we_3, we_10, we_14, we_15, we_16, we_17, we_18, we_20, we_21, we_22, we_24, we_25, we_26, we_27, we_28, we_30, we_31, we_32, wc_20, wc_21, wc_22, wc_24, wc_25, wc_26, wc_27, wc_3, wc_4, wc_7, wc_28, wc_32, ws_1, ws_2, ws_3, ws_4, ws_9, ws_10, ws_11, ws_14, ws_15, ws_16, ws_27, ws_17, ws_20, ws_28, kc_0, kc_1, kn_1, kc_2, kn_2, kc_3, kc_4, kc_5, kc_6, kc_7, kc_8, kc_9, kc_10, kc_12, kc_13, kc_14, kc_16, kc_17, kc_18, kc_19, kc_20, kc_21, kc_22, kc_24, kc_28, kc_30, kc_32, kc_37, kc_40, kc_41, kc_42, kc_43, kc_45, kc_48, kc_56, kc_57, kc_59, kc_60, kc_61, kc_64, kc_73, kc_78, kc_91, kc_95, kc_96, kc_97, kc_98, kc_99, kc_100, kc_112, kc_122, kc_125, kc_126, kc_150, kc_162, kc_163, kc_168, kc_186, kc_190, kc_200, kc_250, kc_255, kc_355, kc_356, kc_404, kc_405, kc_429, kc_573, kc_999, kc_1000, kc_1002, kc_1100, kc_1891, kc_2200, kc_4719, kc_4869, kc_4881, kc_5148, kc_9999, kn_9999, kc_10000, kc_12345, kc_19741, kc_25433, kc_65536, kc_320403, kc_628412, kc_629093, kc_660401, kc_679843, kc_918640, kc_979410, kc_1178088, kc_6232410, kc_24644941, kc_36238189, kc_38270444, kc_392531318, kc_425693491, kc_1103515245, kc_1342154595, kc_2147483648, kc_42328242873, kc_891704255789, kc_1722105685577, kc_1858726030364, ct_0, ct_1, ct_2, ct_3, ct_4, ct_5, cf_0, cf_1, cf_2, cf_3, cf_4, cf_5, w_ty6, w_ty7, m_sv, m_z0, m_hd, m_g0, m_gs, m_s0, m_ss, m_ap, m_an, forall_const, true_and, and_true, ne_eq, not_true_eq_false, not_false_eq_true, false_implies, true_implies, implies_true, eq_self, reduceCtorEq, Nat.reduceDiv, Nat.reduceMod, Int.reduceToNat, or_true, true_or, or_false, false_or, or_self, m_it, m_if, m_c1, m_01, m_02, m_03, m_04, m_10, m_12, m_13, m_14, m_20, m_21, m_23, m_24, m_30, m_31, m_32, m_34, m_40, m_41, m_42, m_43]
    exact fin_w x s y h' e1_w e2_w e3_w
  · simp only [wf_4, wf_40, wf_5, wf_50, wf_6, wl_1, wt_1, wu_1, wa_1, wl_4, wt_4, wu_4, wa_4, wl_5, wt_5, wu_5, wa_5, wl_6, wt_6, wu_6, wa_6, wl_9, wt_9, wu_9, wa_9, wl_10, wt_10, wu_10, wa_10, wl_11, wt_11, wu_11, wa_11, wl_13, wt_13, wu_13, wa_13, wl_14, wt_14, wu_14, wa_14, wl_15, wt_15, wu_15, wa_15, wl_16, wt_16, wu_16, wa_16, wl_17, wt_17, wu_17, wa_17, wl_20, wt_20, wu_20, wa_20, wl_21, wt_21, wu_21, wa_21, wl_22, wt_22, wu_22, wa_22, wl_23, wt_23, wu_23, wa_23, wl_24, wt_24, wu_24, wa_24, wl_26, wt_26, wu_26, wa_26, wl_27, wt_27, wu_27, wa_27, wl_28, wt_28, wu_28, wa_28, we_1, we_3, we_10, we_14, we_15, we_16, we_17, we_18, we_20, we_21, we_22, we_24, we_25, we_26, we_27, we_28, we_30, we_31, we_32, wc_20, wc_21, wc_22, wc_24, wc_25, wc_26, wc_27, wc_3, wc_4, wc_7, wc_28, wc_32, ws_1, ws_2, ws_3, ws_4, ws_9, ws_10, ws_11, ws_14, ws_15, ws_16, ws_27, ws_17, ws_20, ws_28, kc_0, kc_1, kn_1, kc_2, kn_2, kc_3, kc_4, kc_5, kc_6, kc_7, kc_8, kc_9, kc_10, kc_12, kc_13, kc_14, kc_16, kc_17, kc_18, kc_19, kc_20, kc_21, kc_22, kc_24, kc_28, kc_30, kc_32, kc_37, kc_40, kc_41, kc_42, kc_43, kc_45, kc_48, kc_56, kc_57, kc_59, kc_60, kc_61, kc_64, kc_73, kc_78, kc_91, kc_95, kc_96, kc_97, kc_98, kc_99, kc_100, kc_112, kc_122, kc_125, kc_126, kc_150, kc_162, kc_163, kc_168, kc_186, kc_190, kc_200, kc_250, kc_255, kc_355, kc_356, kc_404, kc_405, kc_429, kc_573, kc_999, kc_1000, kc_1002, kc_1100, kc_1891, kc_2200, kc_4719, kc_4869, kc_4881, kc_5148, kc_9999, kn_9999, kc_10000, kc_12345, kc_19741, kc_25433, kc_65536, kc_320403, kc_628412, kc_629093, kc_660401, kc_679843, kc_918640, kc_979410, kc_1178088, kc_6232410, kc_24644941, kc_36238189, kc_38270444, kc_392531318, kc_425693491, kc_1103515245, kc_1342154595, kc_2147483648, kc_42328242873, kc_891704255789, kc_1722105685577, kc_1858726030364, ct_0, ct_1, ct_2, ct_3, ct_4, ct_5, cf_0, cf_1, cf_2, cf_3, cf_4, cf_5, w_ty6, w_ty7, m_sv, m_z0, m_hd, m_g0, m_gs, m_s0, m_ss, m_ap, m_an, forall_const, true_and, and_true, ne_eq, not_true_eq_false, not_false_eq_true, false_implies, true_implies, implies_true, eq_self, reduceCtorEq, Nat.reduceDiv, Nat.reduceMod, Int.reduceToNat, or_true, true_or, or_false, false_or, or_self, m_it, m_if, m_c1, m_01, m_02, m_03, m_04, m_10, m_12, m_13, m_14, m_20, m_21, m_23, m_24, m_30, m_31, m_32, m_34, m_40, m_41, m_42, m_43]
    exact fin_w x s y h' e1_w e2_w e3_w
end HAB
end
section
/-! ===== the reference's methods by hand_w: who, judged ===== -/
section HAC
variable {P : Int × Int} {g : Nat × Nat} {xs : Nat → Int} {L K n : Nat} {ck : Nat → List Nat} {cW : Nat → Nat → Int} {h : XH} {J : XH → Prop}
theorem seen_n (hQ : QK P (r_T 0) J h) : 0 ≤ h 194 404 ∧ h 194 404 ≤ 8 := by
  have k4 : IV P (1, 0, 8) (h 194 404) := s_cell (j := 0) (i := 404) hQ (r := 6) (x := (404, 405, (1, 0, 8))) rfl (by decide) (by decide) (by decide)
  exact ⟨k4.1, k4.2.1⟩
theorem seen_reg : (List.range 8).all (fun k => decide ((r_A 194).2.2[39 + 3 * k]? = some (405 + 3 * k, 406 + 3 * k, (1, 0, 11)))) = true := by decide +kernel
theorem seen_sl (hQ : QK P (r_T 0) J h) {k : Nat} (hk : k < 8) : IV P (1, 0, 11) (h 194 (405 + 3 * k)) := by
  have h1 := List.all_eq_true.mp seen_reg k (List.mem_range.mpr hk)
  rw [decide_eq_true_eq] at h1
  have a := s_cell (j := 0) (i := 405 + 3 * k) hQ h1 (by dsimp only; omega) (by dsimp only; omega) (by decide)
  rw [show 429 * 0 + (405 + 3 * k) = 405 + 3 * k by omega] at a
  exact a
theorem t_305 (hJ : JS (r_T 0) J) (hK_w : 4294967300 ≤ K) (c227 : TotR P (r_T 0) J g (evF xs L ck K cW g_M n) 227) (c254 : TotR P (r_T 0) J g (evF xs L ck K cW g_M n) 254) (c257 : TotR P (r_T 0) J g (evF xs L ck K cW g_M n) 257) : TotR P (r_T 0) J g (evF xs L ck K cW g_M (n + 1)) 305 := by
  refine tot_hand gm_305 rp_305 rr_305 ru_305 fun av h hQ hv => ?_
  obtain ⟨x, rfl, hx⟩ := il1 hv
  obtain rfl : x = 182 := hx
  show wS _ _ K bb_305 [182, 0, 0, 0, 0, 0] h _
  have hfr := fr_all (xs := xs) (L := L) (ck := ck) (K := K) (cW := cW) n
  generalize evF xs L ck K cW g_M n = F at c227 c254 c257 hfr ⊢
  unfold bb_305
  simp only [wf_4, wf_40, wf_5, wf_50, wf_6, wl_1, wt_1, wu_1, wa_1, wl_4, wt_4, wu_4, wa_4, wl_5, wt_5, wu_5, wa_5, wl_6, wt_6, wu_6, wa_6, wl_9, wt_9, wu_9, wa_9, wl_10, wt_10, wu_10, wa_10, wl_11, wt_11, wu_11, wa_11, wl_13, wt_13, wu_13, wa_13, wl_14, wt_14, wu_14, wa_14, wl_15, wt_15, wu_15, wa_15, wl_16, wt_16, wu_16, wa_16, wl_17, wt_17, wu_17, wa_17, wl_20, wt_20, wu_20, wa_20, wl_21, wt_21, wu_21, wa_21, wl_22, wt_22, wu_22, wa_22, wl_23, wt_23, wu_23, wa_23, wl_24, wt_24, wu_24, wa_24, wl_26, wt_26, wu_26, wa_26, wl_27, wt_27, wu_27, wa_27, wl_28, wt_28, wu_28, wa_28, we_1, we_3, we_10, we_14, we_15, we_16, we_17, we_18, we_20, we_21, we_22, we_24, we_25, we_26, we_27, we_28, we_30, we_31, we_32, wc_20, wc_21, wc_22, wc_24, wc_25, wc_26, wc_27, wc_3, wc_4, wc_7, wc_28, wc_32, ws_1, ws_2, ws_3, ws_4, ws_9, ws_10, ws_11, ws_14, ws_15, ws_16, ws_27, ws_17, ws_20, ws_28, kc_0, kc_1, kn_1, kc_2, kn_2, kc_3, kc_4, kc_5, kc_6, kc_7, kc_8, kc_9, kc_10, kc_12, kc_13, kc_14, kc_16, kc_17, kc_18, kc_19, kc_20, kc_21, kc_22, kc_24, kc_28, kc_30, kc_32, kc_37, kc_40, kc_41, kc_42, kc_43, kc_45, kc_48, kc_56, kc_57, kc_59, kc_60, kc_61, kc_64, kc_73, kc_78, kc_91, kc_95, kc_96, kc_97, kc_98, kc_99, kc_100, kc_112, kc_122, kc_125, kc_126, kc_150, kc_162, kc_163, kc_168, kc_186, kc_190, kc_200, kc_250, kc_255, kc_355, kc_356, kc_404, kc_405, kc_429, kc_573, kc_999, kc_1000, kc_1002, kc_1100, kc_1891, kc_2200, kc_4719, kc_4869, kc_4881, kc_5148, kc_9999, kn_9999, kc_10000, kc_12345, kc_19741, kc_25433, kc_65536, kc_320403, kc_628412, kc_629093, kc_660401, kc_679843, kc_918640, kc_979410, kc_1178088, kc_6232410, kc_24644941, kc_36238189, kc_38270444, kc_392531318, kc_425693491, kc_1103515245, kc_1342154595, kc_2147483648, kc_42328242873, kc_891704255789, kc_1722105685577, kc_1858726030364, ct_0, ct_1, ct_2, ct_3, ct_4, ct_5, cf_0, cf_1, cf_2, cf_3, cf_4, cf_5, w_ty6, w_ty7, m_sv, m_z0, m_hd, m_g0, m_gs, m_s0, m_ss, m_ap, m_an, forall_const, true_and, and_true, ne_eq, not_true_eq_false, not_false_eq_true, false_implies, true_implies, implies_true, eq_self, reduceCtorEq, Nat.reduceDiv, Nat.reduceMod, Int.reduceToNat, or_true, true_or, or_false, false_or, or_self, m_it, m_if, m_c1, m_01, m_02, m_03, m_04, m_10, m_12, m_13, m_14, m_20, m_21, m_23, m_24, m_30, m_31, m_32, m_34, m_40, m_41, m_42, m_43]
  obtain ⟨v1_w, h1, a1_w, a2, a3, -⟩ := use1 c227 rp_227 rr_227 hQ il_this
  refine ⟨[v1_w], h1, a1_w, ?_⟩
  refine w_lp (fun en h' => ∃ z k i s w : Int, en = [182, z, k, i, s, w] ∧ 0 ≤ k ∧ k ≤ 8 ∧ InI z ∧ QK P (r_T 0) J h' ∧ KR (r_T 0) h h') (fun en _ => (8 - en.getD 2 0).toNat) ⟨_, 0, 0, 0, 0, rfl, by omega, by omega, iop_in _ _ _, a2, a3⟩ ?_
  rintro en h2 ⟨z, k, i, s, w, rfl, k0_w, k1_w, hz, q1_w, q2_w⟩
  refine ⟨?_, ?_⟩
  · show (8 - k).toNat < K
    omega
  simp only [wf_4, wf_40, wf_5, wf_50, wf_6, wl_1, wt_1, wu_1, wa_1, wl_4, wt_4, wu_4, wa_4, wl_5, wt_5, wu_5, wa_5, wl_6, wt_6, wu_6, wa_6, wl_9, wt_9, wu_9, wa_9, wl_10, wt_10, wu_10, wa_10, wl_11, wt_11, wu_11, wa_11, wl_13, wt_13, wu_13, wa_13, wl_14, wt_14, wu_14, wa_14, wl_15, wt_15, wu_15, wa_15, wl_16, wt_16, wu_16, wa_16, wl_17, wt_17, wu_17, wa_17, wl_20, wt_20, wu_20, wa_20, wl_21, wt_21, wu_21, wa_21, wl_22, wt_22, wu_22, wa_22, wl_23, wt_23, wu_23, wa_23, wl_24, wt_24, wu_24, wa_24, wl_26, wt_26, wu_26, wa_26, wl_27, wt_27, wu_27, wa_27, wl_28, wt_28, wu_28, wa_28, we_1, we_3, we_10, we_14, we_15, we_16, we_17, we_18, we_20, we_21, we_22, we_24, we_25, we_26, we_27, we_28, we_30, we_31, we_32, wc_20, wc_21, wc_22, wc_24, wc_25, wc_26, wc_27, wc_3, wc_4, wc_7, wc_28, wc_32, ws_1, ws_2, ws_3, ws_4, ws_9, ws_10, ws_11, ws_14, ws_15, ws_16, ws_27, ws_17, ws_20, ws_28, kc_0, kc_1, kn_1, kc_2, kn_2, kc_3, kc_4, kc_5, kc_6, kc_7, kc_8, kc_9, kc_10, kc_12, kc_13, kc_14, kc_16, kc_17, kc_18, kc_19, kc_20, kc_21, kc_22, kc_24, kc_28, kc_30, kc_32, kc_37, kc_40, kc_41, kc_42, kc_43, kc_45, kc_48, kc_56, kc_57, kc_59, kc_60, kc_61, kc_64, kc_73, kc_78, kc_91, kc_95, kc_96, kc_97, kc_98, kc_99, kc_100, kc_112, kc_122, kc_125, kc_126, kc_150, kc_162, kc_163, kc_168, kc_186, kc_190, kc_200, kc_250, kc_255, kc_355, kc_356, kc_404, kc_405, kc_429, kc_573, kc_999, kc_1000, kc_1002, kc_1100, kc_1891, kc_2200, kc_4719, kc_4869, kc_4881, kc_5148, kc_9999, kn_9999, kc_10000, kc_12345, kc_19741, kc_25433, kc_65536, kc_320403, kc_628412, kc_629093, kc_660401, kc_679843, kc_918640, kc_979410, kc_1178088, kc_6232410, kc_24644941, kc_36238189, kc_38270444, kc_392531318, kc_425693491, kc_1103515245, kc_1342154595, kc_2147483648, kc_42328242873, kc_891704255789, kc_1722105685577, kc_1858726030364, ct_0, ct_1, ct_2, ct_3, ct_4, ct_5, cf_0, cf_1, cf_2, cf_3, cf_4, cf_5, w_ty6, w_ty7, m_sv, m_z0, m_hd, m_g0, m_gs, m_s0, m_ss, m_ap, m_an, forall_const, true_and, and_true, ne_eq, not_true_eq_false, not_false_eq_true, false_implies, true_implies, implies_true, eq_self, reduceCtorEq, Nat.reduceDiv, Nat.reduceMod, Int.reduceToNat, or_true, true_or, or_false, false_or, or_self, m_it, m_if, m_c1, m_01, m_02, m_03, m_04, m_10, m_12, m_13, m_14, m_20, m_21, m_23, m_24, m_30, m_31, m_32, m_34, m_40, m_41, m_42, m_43]
  have b404 : (0 : Int) ≤ 404 ∧ (404 : Int) < 5148 := by decide
  have m := seen_n q1_w
  refine ⟨b404, fun hk => ?_, fun _ => ⟨q1_w, q2_w, IV.top hz, trivial⟩⟩
  have e1_w : j_iop 0 405 (j_iop 2 3 k) = 405 + 3 * k := by simp (disch := omega) only [jmul, jadd]
  rw [e1_w]
  have e2_w : (405 + 3 * k).toNat = 405 + 3 * k.toNat := by omega
  have bi : 0 ≤ 405 + 3 * k ∧ 405 + 3 * k < 5148 := ⟨by omega, by omega⟩
  have bi1 : 0 ≤ 405 + 3 * k + 1 ∧ 405 + 3 * k + 1 < 5148 := ⟨by omega, by omega⟩
  have bi2 : 0 ≤ 405 + 3 * k + 2 ∧ 405 + 3 * k + 2 < 5148 := ⟨by omega, by omega⟩
  rw [e2_w]
  have hsl := seen_sl q1_w (k := k.toNat) (by omega)
  obtain ⟨h3, b1, b2, b3⟩ := use0 (av := [182, 0, h2 194 (405 + 3 * k.toNat)]) c254 rp_254 rr_254 q1_w ⟨rfl, iv_b0, hsl, trivial⟩
  have b6 := fq hfr 194 b1 (by decide +kernel) rfl
  refine ⟨bi, [], h3, b1, ?_⟩
  refine w_lp (fun en h' => ∃ z s w : Int, en = [182, z, k, 405 + 3 * k, s, w] ∧ 0 ≤ s ∧ s ≤ 4 ∧ InI z ∧ QK P (r_T 0) J h' ∧ KR (r_T 0) h h') (fun en _ => (4 - en.getD 4 0).toNat) ⟨z, 0, w, rfl, by omega, by omega, hz, b2, q2_w.tr b3⟩ ?_
  rintro en h4 ⟨z, s, w, rfl, s0, s1_w, hz, q3_w, q4_w⟩
  refine ⟨?_, ?_⟩
  · show (4 - s).toNat < K
    omega
  simp only [wf_4, wf_40, wf_5, wf_50, wf_6, wl_1, wt_1, wu_1, wa_1, wl_4, wt_4, wu_4, wa_4, wl_5, wt_5, wu_5, wa_5, wl_6, wt_6, wu_6, wa_6, wl_9, wt_9, wu_9, wa_9, wl_10, wt_10, wu_10, wa_10, wl_11, wt_11, wu_11, wa_11, wl_13, wt_13, wu_13, wa_13, wl_14, wt_14, wu_14, wa_14, wl_15, wt_15, wu_15, wa_15, wl_16, wt_16, wu_16, wa_16, wl_17, wt_17, wu_17, wa_17, wl_20, wt_20, wu_20, wa_20, wl_21, wt_21, wu_21, wa_21, wl_22, wt_22, wu_22, wa_22, wl_23, wt_23, wu_23, wa_23, wl_24, wt_24, wu_24, wa_24, wl_26, wt_26, wu_26, wa_26, wl_27, wt_27, wu_27, wa_27, wl_28, wt_28, wu_28, wa_28, we_1, we_3, we_10, we_14, we_15, we_16, we_17, we_18, we_20, we_21, we_22, we_24, we_25, we_26, we_27, we_28, we_30, we_31, we_32, wc_20, wc_21, wc_22, wc_24, wc_25, wc_26, wc_27, wc_3, wc_4, wc_7, wc_28, wc_32, ws_1, ws_2, ws_3, ws_4, ws_9, ws_10, ws_11, ws_14, ws_15, ws_16, ws_27, ws_17, ws_20, ws_28, kc_0, kc_1, kn_1, kc_2, kn_2, kc_3, kc_4, kc_5, kc_6, kc_7, kc_8, kc_9, kc_10, kc_12, kc_13, kc_14, kc_16, kc_17, kc_18, kc_19, kc_20, kc_21, kc_22, kc_24, kc_28, kc_30, kc_32, kc_37, kc_40, kc_41, kc_42, kc_43, kc_45, kc_48, kc_56, kc_57, kc_59, kc_60, kc_61, kc_64, kc_73, kc_78, kc_91, kc_95, kc_96, kc_97, kc_98, kc_99, kc_100, kc_112, kc_122, kc_125, kc_126, kc_150, kc_162, kc_163, kc_168, kc_186, kc_190, kc_200, kc_250, kc_255, kc_355, kc_356, kc_404, kc_405, kc_429, kc_573, kc_999, kc_1000, kc_1002, kc_1100, kc_1891, kc_2200, kc_4719, kc_4869, kc_4881, kc_5148, kc_9999, kn_9999, kc_10000, kc_12345, kc_19741, kc_25433, kc_65536, kc_320403, kc_628412, kc_629093, kc_660401, kc_679843, kc_918640, kc_979410, kc_1178088, kc_6232410, kc_24644941, kc_36238189, kc_38270444, kc_392531318, kc_425693491, kc_1103515245, kc_1342154595, kc_2147483648, kc_42328242873, kc_891704255789, kc_1722105685577, kc_1858726030364, ct_0, ct_1, ct_2, ct_3, ct_4, ct_5, cf_0, cf_1, cf_2, cf_3, cf_4, cf_5, w_ty6, w_ty7, m_sv, m_z0, m_hd, m_g0, m_gs, m_s0, m_ss, m_ap, m_an, forall_const, true_and, and_true, ne_eq, not_true_eq_false, not_false_eq_true, false_implies, true_implies, implies_true, eq_self, reduceCtorEq, Nat.reduceDiv, Nat.reduceMod, Int.reduceToNat, or_true, true_or, or_false, false_or, or_self, m_it, m_if, m_c1, m_01, m_02, m_03, m_04, m_10, m_12, m_13, m_14, m_20, m_21, m_23, m_24, m_30, m_31, m_32, m_34, m_40, m_41, m_42, m_43]
  obtain ⟨v2, h5, d1_w, d2_w, d3_w, d4_w, d5, -⟩ := use1 c227 rp_227 rr_227 q3_w il_this
  refine ⟨[v2], h5, d1_w, fun hs => ?_, fun _ => ?_⟩
  · simp only [m_hd] at hs
    have f1_w : j_iop 0 (405 + 3 * k) 1 = 405 + 3 * k + 1 := jadd (by omega) (by omega)
    have f2_w : j_iop 0 (405 + 3 * k) 2 = 405 + 3 * k + 2 := jadd (by omega) (by omega)
    rw [f1_w, f2_w, e2_w, jinc (by omega) (by omega)]
    have hs5 := seen_sl d2_w (k := k.toNat) (by omega)
    obtain ⟨v3, h6, x1_w, x2_w, x3, x4_w⟩ := use1 (av := [182, 0, s, h5 194 (405 + 3 * k.toNat)]) c257 rp_257 rr_257 d2_w ⟨rfl, iv_b0, IV.top ⟨by omega, by omega⟩, hs5, trivial⟩
    have fin_w : ∀ (z' w' : Int), InI z' → (∃ z_1 s_1 w_1 : Int, [182, z', k, 405 + 3 * k, s + 1, w'] = [182, z_1, k, 405 + 3 * k, s_1, w_1] ∧ 0 ≤ s_1 ∧ s_1 ≤ 4 ∧ InI z_1 ∧ QK P (r_T 0) J h6 ∧ KR (r_T 0) h h6) ∧ (4 - (s + 1)).toNat < (4 - s).toNat := fun z' w' hz' => ⟨⟨z', s + 1, w', rfl, by omega, by omega, hz', x2_w, (q4_w.tr d3_w).tr x3⟩, by omega⟩
    exact ⟨bi, [v3], h6, x1_w, bi1, fun _ => ⟨bi2, fun _ => fin_w _ _ (iop_in _ _ _), fun _ => ⟨fun _ => fin_w _ _ (iop_in _ _ _), fun _ => fin_w _ _ (iop_in _ _ _)⟩⟩, fun _ => ⟨bi2, fun _ => ⟨fun _ => fin_w _ _ (iop_in _ _ _), fun _ => fin_w _ _ (iop_in _ _ _)⟩, fun _ => fin_w _ _ (iop_in _ _ _)⟩⟩
  · rw [jinc (by omega) (by omega)]
    refine ⟨⟨z, k + 1, _, s, w, rfl, by omega, by omega, hz, d2_w, q4_w.tr d3_w⟩, ?_⟩
    show (8 - (k + 1)).toNat < (8 - k).toNat
    omega
theorem q_lines (hQ : QK P (r_T 0) J h) : 0 ≤ h 191 0 ∧ h 191 0 ≤ 30 := by
  have k : IV P (1, 0, 30) (h 191 0) := q_cell hQ (q := 191) (r := 0) (x := (0, 1, (1, 0, 30))) (by decide) rfl rfl (by decide) (by decide)
  exact ⟨k.1, k.2.1⟩
theorem t_273 (hK_w : 4294967300 ≤ K) (c198 : TotW g (evF xs L ck K cW g_M n)) (c240 : TotR P (r_T 0) (RJ P) g (evF xs L ck K cW g_M n) 240) (c264 : TotR P (r_T 0) (RJ P) g (evF xs L ck K cW g_M n) 264) (c266 : TotR P (r_T 0) (RJ P) g (evF xs L ck K cW g_M n) 266) (c259 : TotR P (r_T 0) (RJ P) g (evF xs L ck K cW g_M n) 259) : TotR P (r_T 0) (RJ P) g (evF xs L ck K cW g_M (n + 1)) 273 := by
  have hJ := rj_js (P := P)
  refine tot_hand gm_273 rp_273 rr_273 ru_273 fun av h hQ hv => ?_
  obtain ⟨x, a, rfl, hx, ha_w⟩ := il2 hv
  obtain rfl : x = 182 := hx
  show wS _ _ K bb_273 [182, a, 0, 0, 0] h _
  generalize evF xs L ck K cW g_M n = F at c198 c240 c264 c266 c259 ⊢
  unfold bb_273
  simp only [wf_4, wf_40, wf_5, wf_50, wf_6, wl_1, wt_1, wu_1, wa_1, wl_4, wt_4, wu_4, wa_4, wl_5, wt_5, wu_5, wa_5, wl_6, wt_6, wu_6, wa_6, wl_9, wt_9, wu_9, wa_9, wl_10, wt_10, wu_10, wa_10, wl_11, wt_11, wu_11, wa_11, wl_13, wt_13, wu_13, wa_13, wl_14, wt_14, wu_14, wa_14, wl_15, wt_15, wu_15, wa_15, wl_16, wt_16, wu_16, wa_16, wl_17, wt_17, wu_17, wa_17, wl_20, wt_20, wu_20, wa_20, wl_21, wt_21, wu_21, wa_21, wl_22, wt_22, wu_22, wa_22, wl_23, wt_23, wu_23, wa_23, wl_24, wt_24, wu_24, wa_24, wl_26, wt_26, wu_26, wa_26, wl_27, wt_27, wu_27, wa_27, wl_28, wt_28, wu_28, wa_28, we_1, we_3, we_10, we_14, we_15, we_16, we_17, we_18, we_20, we_21, we_22, we_24, we_25, we_26, we_27, we_28, we_30, we_31, we_32, wc_20, wc_21, wc_22, wc_24, wc_25, wc_26, wc_27, wc_3, wc_4, wc_7, wc_28, wc_32, ws_1, ws_2, ws_3, ws_4, ws_9, ws_10, ws_11, ws_14, ws_15, ws_16, ws_27, ws_17, ws_20, ws_28, kc_0, kc_1, kn_1, kc_2, kn_2, kc_3, kc_4, kc_5, kc_6, kc_7, kc_8, kc_9, kc_10, kc_12, kc_13, kc_14, kc_16, kc_17, kc_18, kc_19, kc_20, kc_21, kc_22, kc_24, kc_28, kc_30, kc_32, kc_37, kc_40, kc_41, kc_42, kc_43, kc_45, kc_48, kc_56, kc_57, kc_59, kc_60, kc_61, kc_64, kc_73, kc_78, kc_91, kc_95, kc_96, kc_97, kc_98, kc_99, kc_100, kc_112, kc_122, kc_125, kc_126, kc_150, kc_162, kc_163, kc_168, kc_186, kc_190, kc_200, kc_250, kc_255, kc_355, kc_356, kc_404, kc_405, kc_429, kc_573, kc_999, kc_1000, kc_1002, kc_1100, kc_1891, kc_2200, kc_4719, kc_4869, kc_4881, kc_5148, kc_9999, kn_9999, kc_10000, kc_12345, kc_19741, kc_25433, kc_65536, kc_320403, kc_628412, kc_629093, kc_660401, kc_679843, kc_918640, kc_979410, kc_1178088, kc_6232410, kc_24644941, kc_36238189, kc_38270444, kc_392531318, kc_425693491, kc_1103515245, kc_1342154595, kc_2147483648, kc_42328242873, kc_891704255789, kc_1722105685577, kc_1858726030364, ct_0, ct_1, ct_2, ct_3, ct_4, ct_5, cf_0, cf_1, cf_2, cf_3, cf_4, cf_5, w_ty6, w_ty7, m_sv, m_z0, m_hd, m_g0, m_gs, m_s0, m_ss, m_ap, m_an, forall_const, true_and, and_true, ne_eq, not_true_eq_false, not_false_eq_true, false_implies, true_implies, implies_true, eq_self, reduceCtorEq, Nat.reduceDiv, Nat.reduceMod, Int.reduceToNat, or_true, true_or, or_false, false_or, or_self, m_it, m_if, m_c1, m_01, m_02, m_03, m_04, m_10, m_12, m_13, m_14, m_20, m_21, m_23, m_24, m_30, m_31, m_32, m_34, m_40, m_41, m_42, m_43]
  obtain ⟨z1, z2⟩ := th0 hQ hJ
  obtain ⟨y1, y2⟩ := fd_QK hQ hJ (k := 0) (v := 1) (Or.inl rfl) ⟨by decide, by decide, in_1⟩
  refine ⟨_, h, c198 a 0 2 h, fun _ => ⟨fun k => absurd k (by rw [up_eq]; decide), fun _ => ?_⟩, fun _ => ⟨fun _ => ⟨y1, y2, IV.top in_0, trivial⟩, fun k => absurd k (by rw [up_eq]; decide)⟩⟩
  obtain ⟨h1, a1_w, a2, a3⟩ := use0 (av := [182, 4719]) c240 rp_240 rr_240 z1 ⟨rfl, iv_trial, trivial⟩
  refine ⟨[], h1, a1_w, ?_⟩
  have hW := hQ.2.2.2.2.2
  have hl := q_lines hQ
  refine w_lp (fun en h' => ∃ w n i : Int, en = [182, a, w, n, i] ∧ 0 ≤ n ∧ n ≤ 30 ∧ InI w ∧ QK P (r_T 0) (RJ P) h' ∧ KR (r_T 0) h h') (fun en _ => (30 - en.getD 3 0).toNat) ⟨-1, 0, 0, rfl, by omega, by omega, in_m1, a2, z2.tr a3⟩ ?_
  rintro en h2 ⟨w, n, i, rfl, n0_w, n1_w, hw, q1_w, q2_w⟩
  refine ⟨?_, ?_⟩
  · show (30 - n).toNat < K
    omega
  simp only [wf_4, wf_40, wf_5, wf_50, wf_6, wl_1, wt_1, wu_1, wa_1, wl_4, wt_4, wu_4, wa_4, wl_5, wt_5, wu_5, wa_5, wl_6, wt_6, wu_6, wa_6, wl_9, wt_9, wu_9, wa_9, wl_10, wt_10, wu_10, wa_10, wl_11, wt_11, wu_11, wa_11, wl_13, wt_13, wu_13, wa_13, wl_14, wt_14, wu_14, wa_14, wl_15, wt_15, wu_15, wa_15, wl_16, wt_16, wu_16, wa_16, wl_17, wt_17, wu_17, wa_17, wl_20, wt_20, wu_20, wa_20, wl_21, wt_21, wu_21, wa_21, wl_22, wt_22, wu_22, wa_22, wl_23, wt_23, wu_23, wa_23, wl_24, wt_24, wu_24, wa_24, wl_26, wt_26, wu_26, wa_26, wl_27, wt_27, wu_27, wa_27, wl_28, wt_28, wu_28, wa_28, we_1, we_3, we_10, we_14, we_15, we_16, we_17, we_18, we_20, we_21, we_22, we_24, we_25, we_26, we_27, we_28, we_30, we_31, we_32, wc_20, wc_21, wc_22, wc_24, wc_25, wc_26, wc_27, wc_3, wc_4, wc_7, wc_28, wc_32, ws_1, ws_2, ws_3, ws_4, ws_9, ws_10, ws_11, ws_14, ws_15, ws_16, ws_27, ws_17, ws_20, ws_28, kc_0, kc_1, kn_1, kc_2, kn_2, kc_3, kc_4, kc_5, kc_6, kc_7, kc_8, kc_9, kc_10, kc_12, kc_13, kc_14, kc_16, kc_17, kc_18, kc_19, kc_20, kc_21, kc_22, kc_24, kc_28, kc_30, kc_32, kc_37, kc_40, kc_41, kc_42, kc_43, kc_45, kc_48, kc_56, kc_57, kc_59, kc_60, kc_61, kc_64, kc_73, kc_78, kc_91, kc_95, kc_96, kc_97, kc_98, kc_99, kc_100, kc_112, kc_122, kc_125, kc_126, kc_150, kc_162, kc_163, kc_168, kc_186, kc_190, kc_200, kc_250, kc_255, kc_355, kc_356, kc_404, kc_405, kc_429, kc_573, kc_999, kc_1000, kc_1002, kc_1100, kc_1891, kc_2200, kc_4719, kc_4869, kc_4881, kc_5148, kc_9999, kn_9999, kc_10000, kc_12345, kc_19741, kc_25433, kc_65536, kc_320403, kc_628412, kc_629093, kc_660401, kc_679843, kc_918640, kc_979410, kc_1178088, kc_6232410, kc_24644941, kc_36238189, kc_38270444, kc_392531318, kc_425693491, kc_1103515245, kc_1342154595, kc_2147483648, kc_42328242873, kc_891704255789, kc_1722105685577, kc_1858726030364, ct_0, ct_1, ct_2, ct_3, ct_4, ct_5, cf_0, cf_1, cf_2, cf_3, cf_4, cf_5, w_ty6, w_ty7, m_sv, m_z0, m_hd, m_g0, m_gs, m_s0, m_ss, m_ap, m_an, forall_const, true_and, and_true, ne_eq, not_true_eq_false, not_false_eq_true, false_implies, true_implies, implies_true, eq_self, reduceCtorEq, Nat.reduceDiv, Nat.reduceMod, Int.reduceToNat, or_true, true_or, or_false, false_or, or_self, m_it, m_if, m_c1, m_01, m_02, m_03, m_04, m_10, m_12, m_13, m_14, m_20, m_21, m_23, m_24, m_30, m_31, m_32, m_34, m_40, m_41, m_42, m_43]
  have e191 : ∀ k, h2 191 k = h 191 k := fun k => q2_w 191 k rfl
  have e1_w : ∀ (h3 : XH), KR (r_T 0) h h3 → ∀ k, h3 191 k = h 191 k := fun h3 k3 k => k3 191 k rfl
  simp only [e191]
  have f1_w : n < h 191 0 → j_iop 0 1 (j_iop 2 4 n) = 1 + 4 * n := fun k => by simp (disch := omega) only [jmul, jadd]
  have f2_w : (1 + 4 * n).toNat = 1 + 4 * n.toNat := by omega
  refine ⟨by decide, fun hn => ?_, fun hn => ?_⟩
  · rw [f1_w hn, f2_w, show j_iop 0 (1 + 4 * n) 1 = 2 + 4 * n from (jadd (by omega) (by omega)).trans (by omega), show j_iop 0 (1 + 4 * n) 2 = 3 + 4 * n from (jadd (by omega) (by omega)).trans (by omega), show j_iop 0 (1 + 4 * n) 3 = 4 + 4 * n from (jadd (by omega) (by omega)).trans (by omega), show (2 + 4 * n).toNat = 2 + 4 * n.toNat by omega, show (3 + 4 * n).toNat = 3 + 4 * n.toNat by omega, show (4 + 4 * n).toNat = 4 + 4 * n.toNat by omega]
    obtain ⟨l0, l1, l2⟩ := hW n.toNat (by omega)
    generalize h 191 (1 + 4 * n.toNat) = A at l0 l1 l2 ⊢
    generalize h 191 (2 + 4 * n.toNat) = B at l0 l1 l2 ⊢
    generalize h 191 (3 + 4 * n.toNat) = C at l0 l1 l2 ⊢
    generalize h 191 (4 + 4 * n.toNat) = D at l0 l1 l2 ⊢
    rw [jinc (by omega) (by omega)]
    have b1 : 0 ≤ 1 + 4 * n ∧ 1 + 4 * n < 250 := ⟨by omega, by omega⟩
    have b2 : 0 ≤ 2 + 4 * n ∧ 2 + 4 * n < 250 := ⟨by omega, by omega⟩
    have b3 : 0 ≤ 3 + 4 * n ∧ 3 + 4 * n < 250 := ⟨by omega, by omega⟩
    have b4 : 0 ≤ 4 + 4 * n ∧ 4 + 4 * n < 250 := ⟨by omega, by omega⟩
    have bT : (0 : Int) ≤ 4881 ∧ (4881 : Int) < 5148 := by decide
    have nm := q_nM q1_w
    have fin_w : ∀ (w' : Int) (h3 : XH), InI w' → QK P (r_T 0) (RJ P) h3 → KR (r_T 0) h2 h3 → (∃ w_1 n_1 i : Int, [182, a, w', n + 1, 1 + 4 * n] = [182, a, w_1, n_1, i] ∧ 0 ≤ n_1 ∧ n_1 ≤ 30 ∧ InI w_1 ∧ QK P (r_T 0) (RJ P) h3 ∧ KR (r_T 0) h h3) ∧ (30 - (n + 1)).toNat < (30 - n).toNat := fun w' h3 k1_w k2 k3 => ⟨⟨w', n + 1, _, rfl, by omega, by omega, k1_w, k2, q2_w.tr k3⟩, by omega⟩
    refine ⟨b1, fun hA => ?_, fun hA => ⟨b1, fun hB_w => ?_, fun hB_w => ⟨b1, fun hC => ?_, fun hC => ⟨bT, fun hr => ⟨bT, ?_⟩, fun _ => ⟨fun _ => fin_w _ _ ⟨by omega, by omega⟩ q1_w KR.rf, fun _ => fin_w _ _ hw q1_w KR.rf⟩⟩⟩⟩⟩
    · obtain ⟨u1, u2_w, u3, u4_w, u5, u6⟩ := l0 hA
      obtain ⟨h3, x1_w, x2_w, x3⟩ := use0 (av := [182, 4719, B, C, D]) c264 rp_264 rr_264 q1_w ⟨rfl, iv_trial, ⟨u1, u2_w, nm.2.2⟩, ⟨u3, u4_w, ⟨by omega, by omega⟩⟩, ⟨by omega, u6, ⟨by omega, by omega⟩⟩, trivial⟩
      exact ⟨b2, b3, b4, [], h3, x1_w, fin_w _ _ hw x2_w x3⟩
    · obtain ⟨u1, u2_w, u3, u4_w, u5, u6⟩ := l1 hB_w
      obtain ⟨h3, x1_w, x2_w, x3⟩ := use0 (av := [182, 4719, B, C, D]) c266 rp_266 rr_266 q1_w ⟨rfl, iv_trial, ⟨u1, u2_w, nm.2.2⟩, ⟨u3, u4_w, ⟨by omega, by omega⟩⟩, ⟨u5, by omega, ⟨by omega, by omega⟩⟩, trivial⟩
      exact ⟨b2, b3, b4, [], h3, x1_w, fin_w _ _ hw x2_w x3⟩
    · obtain ⟨u1, u2_w, u3, u4_w⟩ := l2 hC
      rw [jadd (x := 4869) (y := B) (by omega) (by omega), show (4869 + B).toNat = 429 * 11 + (150 + B.toNat) by omega]
      obtain ⟨x1_w, x2_w⟩ := st_QK q1_w hJ (j := 11) (i := 150 + B.toNat) (v := C) (by decide) (by omega) (st_fit_ok (lo_w := 150) (hi_w := 162) (t := (1, 0, 9999)) (by decide +kernel) (by omega) (by omega) ⟨u3, u4_w, ⟨by omega, by omega⟩⟩) ⟨by omega, by omega⟩
      exact ⟨b2, b3, ⟨by omega, by omega⟩, fin_w _ _ hw x1_w x2_w⟩
    · have k162 : IV P (1, 0, 4) (h2 194 4881) := s_cell (j := 11) (i := 162) q1_w (r := 3) (x := (162, 163, (1, 0, 4))) rfl (by decide) (by decide) (by decide)
      have r0 := k162.1
      rw [jadd (x := h2 194 4881) (y := 1) (by omega) (by omega)]
      obtain ⟨x1_w, x2_w⟩ := st_QK q1_w hJ (j := 11) (i := 162) (v := h2 194 4881 + 1) (by decide) (by decide) (st_fit_ok (lo_w := 162) (hi_w := 163) (t := (1, 0, 4)) (by decide +kernel) (by decide) (by decide) ⟨by omega, by omega, ⟨by omega, by omega⟩⟩) ⟨by omega, by omega⟩
      exact fin_w _ _ hw x1_w x2_w
  · refine ⟨fun _ => ⟨q1_w, q2_w, IV.top hw, trivial⟩, fun _ => ⟨fun _ => ⟨by decide, q1_w, q2_w, IV.top (ht_int q1_w.1 (by decide) _), trivial⟩, fun _ => ?_⟩⟩
    obtain ⟨v, h3, x1_w, x2_w, x3, x4_w⟩ := use1 (av := [182, 4719]) c259 rp_259 rr_259 q1_w ⟨rfl, iv_trial, trivial⟩
    exact ⟨[v], h3, x1_w, x2_w, q2_w.tr x3, x4_w, trivial⟩
end HAC
end
section
/-! ===== the reference's methods behind_w the parser: all_w of them (written_w by wip/tools/asm.py) ===== -/
section ASM
variable {P : Int × Int} {g : Nat × Nat} {xs : Nat → Int} {L K : Nat} {ck : Nat → List Nat} {cW : Nat → Nat → Int}
theorem rd_223 : r_dp 223 = 1 := by decide +kernel
theorem rd_224 : r_dp 224 = 1 := by decide +kernel
theorem rd_225 : r_dp 225 = 1 := by decide +kernel
theorem rd_227 : r_dp 227 = 1 := by decide +kernel
theorem rd_228 : r_dp 228 = 1 := by decide +kernel
theorem rd_229 : r_dp 229 = 1 := by decide +kernel
theorem rd_230 : r_dp 230 = 1 := by decide +kernel
theorem rd_231 : r_dp 231 = 1 := by decide +kernel
theorem rd_232 : r_dp 232 = 1 := by decide +kernel
theorem rd_233 : r_dp 233 = 2 := by decide +kernel
theorem rd_234 : r_dp 234 = 2 := by decide +kernel
theorem rd_236 : r_dp 236 = 2 := by decide +kernel
theorem rd_239 : r_dp 239 = 3 := by decide +kernel
theorem rd_240 : r_dp 240 = 2 := by decide +kernel
theorem rd_242 : r_dp 242 = 2 := by decide +kernel
theorem rd_243 : r_dp 243 = 1 := by decide +kernel
theorem rd_244 : r_dp 244 = 2 := by decide +kernel
theorem rd_245 : r_dp 245 = 2 := by decide +kernel
theorem rd_246 : r_dp 246 = 1 := by decide +kernel
theorem rd_247 : r_dp 247 = 2 := by decide +kernel
theorem rd_249 : r_dp 249 = 4 := by decide +kernel
theorem rd_251 : r_dp 251 = 1 := by decide +kernel
theorem rd_252 : r_dp 252 = 2 := by decide +kernel
theorem rd_253 : r_dp 253 = 3 := by decide +kernel
theorem rd_254 : r_dp 254 = 6 := by decide +kernel
theorem rd_256 : r_dp 256 = 1 := by decide +kernel
theorem rd_257 : r_dp 257 = 2 := by decide +kernel
theorem rd_259 : r_dp 259 = 8 := by decide +kernel
theorem rd_264 : r_dp 264 = 1 := by decide +kernel
theorem rd_266 : r_dp 266 = 1 := by decide +kernel
theorem rd_271 : r_dp 271 = 8 := by decide +kernel
theorem rd_272 : r_dp 272 = 2 := by decide +kernel
theorem rd_273 : r_dp 273 = 9 := by decide +kernel
theorem rd_284 : r_dp 284 = 4 := by decide +kernel
theorem rd_285 : r_dp 285 = 7 := by decide +kernel
theorem rd_287 : r_dp 287 = 7 := by decide +kernel
theorem rd_298 : r_dp 298 = 2 := by decide +kernel
theorem rd_304 : r_dp 304 = 3 := by decide +kernel
theorem rd_305 : r_dp 305 = 7 := by decide +kernel
theorem rd_309 : r_dp 309 = 1 := by decide +kernel
theorem rd_310 : r_dp 310 = 9 := by decide +kernel
theorem rd_311 : r_dp 311 = 2 := by decide +kernel
theorem h_224 (hK2 : 20000000000 ≤ K) {n : Nat} (ih_w : ∀ m q, m ≤ n + 1 → r_dp q < m → TotR P (r_T 0) (RJ P) g (evF xs L ck K cW g_M m) q) : TotR P (r_T 0) (RJ P) g (evF xs L ck K cW g_M (n + 1 + 1)) 224 := by
  have hK_w : 4294967300 ≤ K := by omega
  have hJ := rj_js (P := P)
  exact t_224 (n := n + 1) hJ hK_w
theorem h_230 (hK2 : 20000000000 ≤ K) {n : Nat} (ih_w : ∀ m q, m ≤ n + 1 → r_dp q < m → TotR P (r_T 0) (RJ P) g (evF xs L ck K cW g_M m) q) : TotR P (r_T 0) (RJ P) g (evF xs L ck K cW g_M (n + 1 + 1)) 230 := by
  have hK_w : 4294967300 ≤ K := by omega
  have hJ := rj_js (P := P)
  exact t_230 (n := n + 1)
theorem h_232 (hK2 : 20000000000 ≤ K) {n : Nat} (ih_w : ∀ m q, m ≤ n + 1 → r_dp q < m → TotR P (r_T 0) (RJ P) g (evF xs L ck K cW g_M m) q) : TotR P (r_T 0) (RJ P) g (evF xs L ck K cW g_M (n + 1 + 1)) 232 := by
  have hK_w : 4294967300 ≤ K := by omega
  have hJ := rj_js (P := P)
  exact t_232 (n := n + 1)
theorem h_240 (hK2 : 20000000000 ≤ K) {n : Nat} (ih_w : ∀ m q, m ≤ n + 2 → r_dp q < m → TotR P (r_T 0) (RJ P) g (evF xs L ck K cW g_M m) q) : TotR P (r_T 0) (RJ P) g (evF xs L ck K cW g_M (n + 2 + 1)) 240 := by
  have hK_w : 4294967300 ≤ K := by omega
  have hJ := rj_js (P := P)
  exact t_240 (n := n + 2) hJ hK_w (ih_w (n + 2) 228 (by omega) (by rw [rd_228]; omega)) (ih_w (n + 2) 225 (by omega) (by rw [rd_225]; omega))
theorem h_242 (hK2 : 20000000000 ≤ K) {n : Nat} (ih_w : ∀ m q, m ≤ n + 2 → r_dp q < m → TotR P (r_T 0) (RJ P) g (evF xs L ck K cW g_M m) q) : TotR P (r_T 0) (RJ P) g (evF xs L ck K cW g_M (n + 2 + 1)) 242 := by
  have hK_w : 4294967300 ≤ K := by omega
  have hJ := rj_js (P := P)
  exact t_242 (n := n + 1) hJ hK_w
theorem h_244 (hK2 : 20000000000 ≤ K) {n : Nat} (ih_w : ∀ m q, m ≤ n + 2 → r_dp q < m → TotR P (r_T 0) (RJ P) g (evF xs L ck K cW g_M m) q) : TotR P (r_T 0) (RJ P) g (evF xs L ck K cW g_M (n + 2 + 1)) 244 := by
  have hK_w : 4294967300 ≤ K := by omega
  have hJ := rj_js (P := P)
  intro av h hQ hv
  rw [rp_244] at hv
  obtain ⟨x, b, m, p, rfl, hx, hb_w, hm_w, hp⟩ := il4 hv
  obtain rfl : x = 182 := hx
  obtain ⟨v, h', e1_w, e2_w, e3_w, e4_w, e5_w⟩ := (s_244 (n := n + 2) hK_w (ih_w (n + 2) 243 (by omega) (by rw [rd_243]; omega))) h b m p hQ hb_w hm_w hp.1 hp.2.1
  have p2_w := hp.2.1
  exact ⟨[v], h', e1_w, e2_w, e3_w, by rw [rr_244]; exact ⟨⟨e4_w, by omega, ⟨by omega, by omega⟩⟩, trivial⟩, fun _ => by rw [ru_244]; exact hv⟩
theorem h_245 (hK2 : 20000000000 ≤ K) {n : Nat} (ih_w : ∀ m q, m ≤ n + 2 → r_dp q < m → TotR P (r_T 0) (RJ P) g (evF xs L ck K cW g_M m) q) : TotR P (r_T 0) (RJ P) g (evF xs L ck K cW g_M (n + 2 + 1)) 245 := by
  have hK_w : 4294967300 ≤ K := by omega
  have hJ := rj_js (P := P)
  intro av h hQ hv
  rw [rp_245] at hv
  obtain ⟨x, b, m, p, rfl, hx, hb_w, hm_w, hp⟩ := il4 hv
  obtain rfl : x = 182 := hx
  obtain ⟨v, h', e1_w, e2_w, e3_w, e4_w⟩ := (s_245 (n := n + 2) hK_w (ih_w (n + 2) 243 (by omega) (by rw [rd_243]; omega)) (ih_w (n + 2) 225 (by omega) (by rw [rd_225]; omega))) h b m p hQ hb_w hm_w hp.1 hp.2.1
  have p1_w := hp.1
  exact ⟨[v], h', e1_w, e2_w, e3_w, by rw [rr_245]; exact ⟨⟨by omega, by omega, ⟨by omega, by omega⟩⟩, trivial⟩, fun _ => by rw [ru_245]; exact hv⟩
theorem h_247 (hK2 : 20000000000 ≤ K) {n : Nat} (ih_w : ∀ m q, m ≤ n + 2 → r_dp q < m → TotR P (r_T 0) (RJ P) g (evF xs L ck K cW g_M m) q) : TotR P (r_T 0) (RJ P) g (evF xs L ck K cW g_M (n + 2 + 1)) 247 := by
  have hK_w : 4294967300 ≤ K := by omega
  have hJ := rj_js (P := P)
  intro av h hQ hv
  rw [rp_247] at hv
  obtain ⟨x, c, p, t, e, rfl, hx, hc_w, hp, ht, he⟩ := il5 hv
  obtain rfl : x = 182 := hx
  obtain ⟨v, h', e1_w, e2_w, e3_w, e4_w, -⟩ := (s_247 (n := n + 2) hK_w (s_232 (n := n + 1))) h c p t e hQ hc_w hp.1 hp.2.1 ht.1 ht.2.1 he.1 he.2.1
  exact ⟨[v], h', e1_w, e2_w, e3_w, by rw [rr_247]; exact ⟨IV.top e4_w, trivial⟩, fun _ => by rw [ru_247]; exact hv⟩
theorem h_249 (hK2 : 20000000000 ≤ K) {n : Nat} (ih_w : ∀ m q, m ≤ n + 4 → r_dp q < m → TotR P (r_T 0) (RJ P) g (evF xs L ck K cW g_M m) q) : TotR P (r_T 0) (RJ P) g (evF xs L ck K cW g_M (n + 4 + 1)) 249 := by
  have hK_w : 4294967300 ≤ K := by omega
  have hJ := rj_js (P := P)
  exact t_249 (n := n + 4) (s_244 (n := n + 3) hK_w (ih_w (n + 3) 243 (by omega) (by rw [rd_243]; omega))) (s_245 (n := n + 3) hK_w (ih_w (n + 3) 243 (by omega) (by rw [rd_243]; omega)) (ih_w (n + 3) 225 (by omega) (by rw [rd_225]; omega))) (s_248 (n := n + 3) (ih_w (n + 3) 243 (by omega) (by rw [rd_243]; omega)) (ih_w (n + 3) 230 (by omega) (by rw [rd_230]; omega)) (ih_w (n + 3) 246 (by omega) (by rw [rd_246]; omega)) (s_247 (n := n + 2) hK_w (s_232 (n := n + 1)))) (ih_w (n + 4) 229 (by omega) (by rw [rd_229]; omega)) (ih_w (n + 4) 243 (by omega) (by rw [rd_243]; omega))
theorem h_251 (hK2 : 20000000000 ≤ K) {n : Nat} (ih_w : ∀ m q, m ≤ n + 1 → r_dp q < m → TotR P (r_T 0) (RJ P) g (evF xs L ck K cW g_M m) q) : TotR P (r_T 0) (RJ P) g (evF xs L ck K cW g_M (n + 1 + 1)) 251 := by
  have hK_w : 4294967300 ≤ K := by omega
  have hJ := rj_js (P := P)
  exact t_251 (n := n + 1) hJ hK2
theorem h_253 (hK2 : 20000000000 ≤ K) {n : Nat} (ih_w : ∀ m q, m ≤ n + 3 → r_dp q < m → TotR P (r_T 0) (RJ P) g (evF xs L ck K cW g_M m) q) : TotR P (r_T 0) (RJ P) g (evF xs L ck K cW g_M (n + 3 + 1)) 253 := by
  have hK_w : 4294967300 ≤ K := by omega
  have hJ := rj_js (P := P)
  exact t_253 (n := n + 3) (ih_w (n + 3) 231 (by omega) (by rw [rd_231]; omega)) (ih_w (n + 3) 252 (by omega) (by rw [rd_252]; omega)) (s_222 (n := n + 2) hK_w (ih_w (n + 2) 223 (by omega) (by rw [rd_223]; omega)))
theorem h_271 (hK2 : 20000000000 ≤ K) {n : Nat} (ih_w : ∀ m q, m ≤ n + 8 → r_dp q < m → TotR P (r_T 0) (RJ P) g (evF xs L ck K cW g_M m) q) : TotR P (r_T 0) (RJ P) g (evF xs L ck K cW g_M (n + 8 + 1)) 271 := by
  have hK_w : 4294967300 ≤ K := by omega
  have hJ := rj_js (P := P)
  exact t_271 (n := n + 8) hJ (s_242 (n := n + 6) hJ hK_w) (s_270 (n := n + 7) hJ hK_w (ih_w (n + 7) 225 (by omega) (by rw [rd_225]; omega)) (ih_w (n + 7) 227 (by omega) (by rw [rd_227]; omega)) (ih_w (n + 7) 228 (by omega) (by rw [rd_228]; omega)) (ih_w (n + 7) 254 (by omega) (by rw [rd_254]; omega)) (ih_w (n + 7) 257 (by omega) (by rw [rd_257]; omega)) (ih_w (n + 7) 256 (by omega) (by rw [rd_256]; omega)) (ih_w (n + 7) 230 (by omega) (by rw [rd_230]; omega)) (s_269 (n := n + 6) hJ hK_w))
theorem h_272 (hK2 : 20000000000 ≤ K) {n : Nat} (ih_w : ∀ m q, m ≤ n + 2 → r_dp q < m → TotR P (r_T 0) (RJ P) g (evF xs L ck K cW g_M m) q) : TotR P (r_T 0) (RJ P) g (evF xs L ck K cW g_M (n + 2 + 1)) 272 := by
  have hK_w : 4294967300 ≤ K := by omega
  have hJ := rj_js (P := P)
  exact t_272 (n := n + 2) hJ (s_224 (n := n + 1) hJ hK_w)
theorem h_273 (hK2 : 20000000000 ≤ K) {n : Nat} (ih_w : ∀ m q, m ≤ n + 9 → r_dp q < m → TotR P (r_T 0) (RJ P) g (evF xs L ck K cW g_M m) q) : TotR P (r_T 0) (RJ P) g (evF xs L ck K cW g_M (n + 9 + 1)) 273 := by
  have hK_w : 4294967300 ≤ K := by omega
  have hJ := rj_js (P := P)
  exact t_273 (n := n + 9) hK_w tot_198 (ih_w (n + 9) 240 (by omega) (by rw [rd_240]; omega)) (ih_w (n + 9) 264 (by omega) (by rw [rd_264]; omega)) (ih_w (n + 9) 266 (by omega) (by rw [rd_266]; omega)) (ih_w (n + 9) 259 (by omega) (by rw [rd_259]; omega))
theorem h_284 (hK2 : 20000000000 ≤ K) {n : Nat} (ih_w : ∀ m q, m ≤ n + 4 → r_dp q < m → TotR P (r_T 0) (RJ P) g (evF xs L ck K cW g_M m) q) : TotR P (r_T 0) (RJ P) g (evF xs L ck K cW g_M (n + 4 + 1)) 284 := by
  have hK_w : 4294967300 ≤ K := by omega
  have hJ := rj_js (P := P)
  exact t_284 (n := n + 4) hJ (ih_w (n + 4) 239 (by omega) (by rw [rd_239]; omega)) (s_244 (n := n + 3) hK_w (ih_w (n + 3) 243 (by omega) (by rw [rd_243]; omega))) (s_245 (n := n + 3) hK_w (ih_w (n + 3) 243 (by omega) (by rw [rd_243]; omega)) (ih_w (n + 3) 225 (by omega) (by rw [rd_225]; omega))) (s_248 (n := n + 3) (ih_w (n + 3) 243 (by omega) (by rw [rd_243]; omega)) (ih_w (n + 3) 230 (by omega) (by rw [rd_230]; omega)) (ih_w (n + 3) 246 (by omega) (by rw [rd_246]; omega)) (s_247 (n := n + 2) hK_w (s_232 (n := n + 1)))) (ih_w (n + 4) 229 (by omega) (by rw [rd_229]; omega)) (ih_w (n + 4) 243 (by omega) (by rw [rd_243]; omega))
theorem h_304 (hK2 : 20000000000 ≤ K) {n : Nat} (ih_w : ∀ m q, m ≤ n + 3 → r_dp q < m → TotR P (r_T 0) (RJ P) g (evF xs L ck K cW g_M m) q) : TotR P (r_T 0) (RJ P) g (evF xs L ck K cW g_M (n + 3 + 1)) 304 := by
  have hK_w : 4294967300 ≤ K := by omega
  have hJ := rj_js (P := P)
  exact t_304 (n := n + 3) hJ tot_198 (ih_w (n + 3) 236 (by omega) (by rw [rd_236]; omega))
theorem h_305 (hK2 : 20000000000 ≤ K) {n : Nat} (ih_w : ∀ m q, m ≤ n + 7 → r_dp q < m → TotR P (r_T 0) (RJ P) g (evF xs L ck K cW g_M m) q) : TotR P (r_T 0) (RJ P) g (evF xs L ck K cW g_M (n + 7 + 1)) 305 := by
  have hK_w : 4294967300 ≤ K := by omega
  have hJ := rj_js (P := P)
  exact t_305 (n := n + 7) hJ hK_w (ih_w (n + 7) 227 (by omega) (by rw [rd_227]; omega)) (ih_w (n + 7) 254 (by omega) (by rw [rd_254]; omega)) (ih_w (n + 7) 257 (by omega) (by rw [rd_257]; omega))
theorem h_309 (hK2 : 20000000000 ≤ K) {n : Nat} (ih_w : ∀ m q, m ≤ n + 1 → r_dp q < m → TotR P (r_T 0) (RJ P) g (evF xs L ck K cW g_M m) q) : TotR P (r_T 0) (RJ P) g (evF xs L ck K cW g_M (n + 1 + 1)) 309 := by
  have hK_w : 4294967300 ≤ K := by omega
  have hJ := rj_js (P := P)
  intro av h hQ hv
  rw [rp_309] at hv
  obtain ⟨x, m, rfl, hx, hm_w⟩ := il2 hv
  obtain rfl : x = 182 := hx
  obtain ⟨m0_w, m1_w, -⟩ := hm_w
  obtain ⟨v, h', e1_w, e2_w, e3_w, e4_w, e5_w⟩ := (s_309 (n := n + 1) hJ) h m hQ m0_w m1_w
  exact ⟨[v], h', e1_w, e2_w, e3_w, by rw [rr_309]; exact ⟨⟨e4_w, by omega, ⟨by omega, by omega⟩⟩, trivial⟩, fun _ => by rw [ru_309]; exact hv⟩
theorem h_310 (hK2 : 20000000000 ≤ K) {n : Nat} (ih_w : ∀ m q, m ≤ n + 9 → r_dp q < m → TotR P (r_T 0) (RJ P) g (evF xs L ck K cW g_M m) q) : TotR P (r_T 0) (RJ P) g (evF xs L ck K cW g_M (n + 9 + 1)) 310 := by
  have hK_w : 4294967300 ≤ K := by omega
  have hJ := rj_js (P := P)
  exact t_310 (n := n + 9) hJ hK_w tot_198 (tot_274 hJ) (s_225 (n := n + 8)) (ih_w (n + 9) 228 (by omega) (by rw [rd_228]; omega)) (ih_w (n + 9) 298 (by omega) (by rw [rd_298]; omega)) (s_309 (n := n + 8) hJ) (ih_w (n + 9) 264 (by omega) (by rw [rd_264]; omega)) (ih_w (n + 9) 259 (by omega) (by rw [rd_259]; omega)) (ih_w (n + 9) 285 (by omega) (by rw [rd_285]; omega)) (ih_w (n + 9) 287 (by omega) (by rw [rd_287]; omega))
theorem h_311 (hK2 : 20000000000 ≤ K) {n : Nat} (ih_w : ∀ m q, m ≤ n + 2 → r_dp q < m → TotR P (r_T 0) (RJ P) g (evF xs L ck K cW g_M m) q) : TotR P (r_T 0) (RJ P) g (evF xs L ck K cW g_M (n + 2 + 1)) 311 := by
  have hK_w : 4294967300 ≤ K := by omega
  have hJ := rj_js (P := P)
  exact t_311 (n := n + 2) hJ tot_198 (s_224 (n := n + 1) hJ hK_w)
theorem r_hand (hK2 : 20000000000 ≤ K) : ∀ n f, r_hd f = true → r_dp f < n + 1 → (∀ m q, m ≤ n → r_dp q < m → TotR P (r_T 0) (RJ P) g (evF xs L ck K cW g_M m) q) → TotR P (r_T 0) (RJ P) g (evF xs L ck K cW g_M (n + 1)) f := by
  intro n f hf hd_w ih_w
  unfold r_hd at hf
  obtain ⟨q, hq, e⟩ := List.any_eq_true.mp hf
  rw [Nat.beq_eq] at e
  subst e
  simp only [List.mem_cons, List.not_mem_nil, or_false] at hq
  rcases hq with rfl | rfl | rfl | rfl | rfl | rfl | rfl | rfl | rfl | rfl | rfl | rfl | rfl | rfl | rfl | rfl | rfl | rfl | rfl | rfl
  · obtain ⟨n, rfl⟩ : ∃ m, n = m + 1 := ⟨n - 1, by rw [rd_224] at hd_w; omega⟩
    exact h_224 hK2 ih_w
  · obtain ⟨n, rfl⟩ : ∃ m, n = m + 1 := ⟨n - 1, by rw [rd_230] at hd_w; omega⟩
    exact h_230 hK2 ih_w
  · obtain ⟨n, rfl⟩ : ∃ m, n = m + 1 := ⟨n - 1, by rw [rd_232] at hd_w; omega⟩
    exact h_232 hK2 ih_w
  · obtain ⟨n, rfl⟩ : ∃ m, n = m + 2 := ⟨n - 2, by rw [rd_240] at hd_w; omega⟩
    exact h_240 hK2 ih_w
  · obtain ⟨n, rfl⟩ : ∃ m, n = m + 2 := ⟨n - 2, by rw [rd_242] at hd_w; omega⟩
    exact h_242 hK2 ih_w
  · obtain ⟨n, rfl⟩ : ∃ m, n = m + 2 := ⟨n - 2, by rw [rd_244] at hd_w; omega⟩
    exact h_244 hK2 ih_w
  · obtain ⟨n, rfl⟩ : ∃ m, n = m + 2 := ⟨n - 2, by rw [rd_245] at hd_w; omega⟩
    exact h_245 hK2 ih_w
  · obtain ⟨n, rfl⟩ : ∃ m, n = m + 2 := ⟨n - 2, by rw [rd_247] at hd_w; omega⟩
    exact h_247 hK2 ih_w
  · obtain ⟨n, rfl⟩ : ∃ m, n = m + 4 := ⟨n - 4, by rw [rd_249] at hd_w; omega⟩
    exact h_249 hK2 ih_w
  · obtain ⟨n, rfl⟩ : ∃ m, n = m + 1 := ⟨n - 1, by rw [rd_251] at hd_w; omega⟩
    exact h_251 hK2 ih_w
  · obtain ⟨n, rfl⟩ : ∃ m, n = m + 3 := ⟨n - 3, by rw [rd_253] at hd_w; omega⟩
    exact h_253 hK2 ih_w
  · obtain ⟨n, rfl⟩ : ∃ m, n = m + 8 := ⟨n - 8, by rw [rd_271] at hd_w; omega⟩
    exact h_271 hK2 ih_w
  · obtain ⟨n, rfl⟩ : ∃ m, n = m + 2 := ⟨n - 2, by rw [rd_272] at hd_w; omega⟩
    exact h_272 hK2 ih_w
  · obtain ⟨n, rfl⟩ : ∃ m, n = m + 9 := ⟨n - 9, by rw [rd_273] at hd_w; omega⟩
    exact h_273 hK2 ih_w
  · obtain ⟨n, rfl⟩ : ∃ m, n = m + 4 := ⟨n - 4, by rw [rd_284] at hd_w; omega⟩
    exact h_284 hK2 ih_w
  · obtain ⟨n, rfl⟩ : ∃ m, n = m + 3 := ⟨n - 3, by rw [rd_304] at hd_w; omega⟩
    exact h_304 hK2 ih_w
  · obtain ⟨n, rfl⟩ : ∃ m, n = m + 7 := ⟨n - 7, by rw [rd_305] at hd_w; omega⟩
    exact h_305 hK2 ih_w
  · obtain ⟨n, rfl⟩ : ∃ m, n = m + 1 := ⟨n - 1, by rw [rd_309] at hd_w; omega⟩
    exact h_309 hK2 ih_w
  · obtain ⟨n, rfl⟩ : ∃ m, n = m + 9 := ⟨n - 9, by rw [rd_310] at hd_w; omega⟩
    exact h_310 hK2 ih_w
  · obtain ⟨n, rfl⟩ : ∃ m, n = m + 2 := ⟨n - 2, by rw [rd_311] at hd_w; omega⟩
    exact h_311 hK2 ih_w
/-- every method_w of the reference_w behind_w the parser ends_w, and keeps_w what is_w kept -/
theorem r_ref (hK2 : 20000000000 ≤ K) {n f : Nat} (hd_w : r_dp f < n) (hn : n < 99999) : TotR P (r_T 0) (RJ P) g (evF xs L ck K cW g_M n) f := r_all (by omega) rj_js (r_hand hK2) n n f (Nat.le_refl _) hd_w hn
end ASM
end
section
/-! ===== the reference's parser: where it stands ===== -/
/-- the token at which it stands, and the END behind_w all_w: N -/
def PT (N : Nat) (h : XH) : Prop := 0 ≤ h 182 8 ∧ 0 ≤ h 182 7 ∧ h 182 7 ≤ (N : Int) ∧ N ≤ 1000 ∧ h 184 N = 0 ∧ 0 ≤ h 182 12 ∧ h 182 12 ≤ h 182 7 + 1001 ∧ ∀ i : Nat, i < N → h 184 i = 2 → 0 ≤ h 186 i ∧ h 186 i ≤ 9999
/-- the draft of a grid -/
def DG (h : XH) : Prop := GridOK (h 188) 95 (h 188 98) (h 188 96)
def PK (P : Int × Int) (N : Nat) (h : XH) : Prop := QK P (r_T 0) (RJ P) h ∧ PT N h ∧ DG h
/-- at and fault alone_w are written_w -/
def PA (N : Nat) (h h' : XH) : Prop := (∀ o k, (o = 182 → k ≠ 7 ∧ k ≠ 8) → h' o k = h o k) ∧ 0 ≤ h' 182 8 ∧ InI (h' 182 8) ∧ (h 182 8 ≠ 0 → h' 182 8 = h 182 8) ∧ h 182 7 ≤ h' 182 7 ∧ h' 182 7 ≤ (N : Int)
section PAR1
variable {P : Int × Int} {N : Nat} {g : Nat × Nat} {xs : Nat → Int} {L K n : Nat} {ck : Nat → List Nat} {cW : Nat → Nat → Int} {h h' h2 : XH}
theorem fld78 {h : XH} {a f : Int} {k : Nat} (hk : k = 7 ∨ k = 8) (hQ : QK P (r_T 0) (RJ P) h) {v : Int} (hv : InI v) : QK P (r_T 0) (RJ P) (j_up h 182 k v) := by
  rcases hk with rfl | rfl
  · exact (fd_QK hQ rj_js (k := 7) (Or.inl rfl) (IV.top hv)).1
  · exact (fd_QK hQ rj_js (k := 8) (Or.inl rfl) (IV.top hv)).1
theorem ht_fld {k : Nat} (hQ : QK P (r_T 0) (RJ P) h) (hk : (r_F k).1 = 1) : InI (h 182 k) := by
  have k1_w : IV P (r_F k) (h 182 k) := hQ.2.1 k
  generalize r_F k = t at hk k1_w
  obtain ⟨tt, l, u⟩ := t
  dsimp only at hk
  subst hk
  exact k1_w.2.2
theorem PA.rf (hp : PK P N h) : PA N h h := ⟨fun _ _ _ => rfl, hp.2.1.1, ht_fld hp.1 rfl, fun _ => rfl, Int.le_refl _, hp.2.1.2.2.1⟩
theorem PK.pa (hp : PK P N h) (ha_w : PA N h h') : PK P N h' := by
  obtain ⟨a1_w, a2, a3, a4, a5, a6⟩ := ha_w
  obtain ⟨q, ⟨p1_w, p2_w, p3_w, p4_w, p5_w, p6_w, p7_w, p8_w⟩, d⟩ := hp
  have e : h' = j_up (j_up h 182 7 (h' 182 7)) 182 8 (h' 182 8) := funext fun o => funext fun k => by
    by_cases h8 : o = 182 ∧ k = 8
    · obtain ⟨rfl, rfl⟩ := h8
      rw [up_eq]
    · rw [up_ne h8]
      by_cases h7 : o = 182 ∧ k = 7
      · obtain ⟨rfl, rfl⟩ := h7
        rw [up_eq]
      · rw [up_ne h7]
        exact a1_w o k (fun z => ⟨fun z2 => h7 ⟨z, z2⟩, fun z2 => h8 ⟨z, z2⟩⟩)
  have e188 : h' 188 = h 188 := funext fun k => a1_w 188 k (fun z => absurd z (by decide))
  refine ⟨?_, ⟨a2, by omega, a6, p4_w, (a1_w 184 N (fun z => absurd z (by decide))).trans p5_w, ?_, ?_, fun i hi_w hs => ?_⟩, ?_⟩
  · rw [e]
    exact fld78 (a := 0) (f := 0) (Or.inr rfl) (fld78 (a := 0) (f := 0) (Or.inl rfl) q ⟨by omega, by omega⟩) a3
  · rw [a1_w 182 12 (fun _ => by decide)]
    exact p6_w
  · rw [a1_w 182 12 (fun _ => by decide)]
    omega
  · rw [a1_w 184 i (fun z => absurd z (by decide))] at hs
    rw [a1_w 186 i (fun z => absurd z (by decide))]
    exact p8_w i hi_w hs
  · unfold DG
    rw [e188]
    exact d
theorem PA.tr (a : PA N h h') (b : PA N h' h2) : PA N h h2 := by
  obtain ⟨a1_w, a2, a3, a4, a5, a6⟩ := a
  obtain ⟨b1, b2, b3, b4, b5, b6⟩ := b
  exact ⟨fun o k e => (b1 o k e).trans (a1_w o k e), b2, b3, fun e => by rw [b4 (by rw [a4 e]; exact e), a4 e], by omega, b6⟩
theorem PA.ob (a : PA N h h') {q : Nat} (hq : q ≠ 182) : h' q = h q := funext fun k => a.1 q k (fun z => absurd z hq)
theorem up_self {o k : Nat} : j_up h o k (h o k) = h := funext fun a => funext fun b => by
  by_cases e : a = o ∧ b = k
  · obtain ⟨rfl, rfl⟩ := e
    rw [up_eq]
  · rw [up_ne e]
/-- one token on_w -/
theorem PA.next (hp : PK P N h) (hs : h 184 (h 182 7).toNat ≠ 0) : PA N h (j_up h 182 7 (h 182 7 + 1)) := by
  obtain ⟨q, ⟨p1_w, p2_w, p3_w, p4_w, p5_w, p6_w, p7_w⟩, d⟩ := hp
  have hne : h 182 7 ≠ (N : Int) := fun e => hs (by rw [e]; exact p5_w)
  refine ⟨fun o k e => up_ne (fun z => (e z.1).1 z.2), ?_, ?_, fun _ => up_ne (fun z => absurd z.2 (by decide)), ?_, ?_⟩
  · rw [up_ne (fun z => absurd z.2 (by decide))]
    exact p1_w
  · rw [up_ne (fun z => absurd z.2 (by decide))]
    exact ht_fld q rfl
  · rw [up_eq]
    omega
  · rw [up_eq]
    omega
theorem p_place (hp : PK P N h) : 0 ≤ h 185 (h 182 7).toNat ∧ h 185 (h 182 7).toNat ≤ 1000 := by
  obtain ⟨q, ⟨p1_w, p2_w, p3_w, p4_w, p5_w, p6_w, p7_w⟩, d⟩ := hp
  have k : IV P (1, 0, 1000) (h 185 (h 182 7).toNat) := q_cell q (q := 185) (r := 0) (x := (0, 1002, (1, 0, 1000))) (by decide) rfl rfl (by dsimp only; omega) (by dsimp only; omega)
  exact ⟨k.1, k.2.1⟩
end PAR1
/-- what the token is_w: a SIGN, a WORD -/
def tkS (h : XH) (c : Int) : Prop := h 182 8 = 0 ∧ h 184 (h 182 7).toNat = 3 ∧ h 186 (h 182 7).toNat = c
def tkW (h : XH) (w : Int) : Prop := h 182 8 = 0 ∧ h 184 (h 182 7).toNat = 1 ∧ h 186 (h 182 7).toNat = h 187 w.toNat
def G191 (P : Int × Int) (N : Nat) (g : Nat × Nat) (F : XP) : Prop := ∀ (h : XH) (w : Int), PK P N h → 1 ≤ w → w ≤ 5 → ∃ h', F 191 [182, w] ((a_g3, g), h) = some (1, [], ((a_g3, g), h')) ∧ PA N h h' ∧ h' 182 7 = h 182 7 ∧ h' 182 8 ≠ 0 ∧ (h 182 8 = 0 → h' 182 8 = w + 16 * h 185 (h 182 7).toNat)
def G192 (P : Int × Int) (N : Nat) (g : Nat × Nat) (F : XP) : Prop := ∀ (h : XH) (c : Int), PK P N h → InI c → ∃ v, F 192 [182, c] ((a_g3, g), h) = some (1, [v], ((a_g3, g), h)) ∧ (v = 0 ∨ v = 1) ∧ (v ≠ 0 ↔ tkS h c)
def G193 (P : Int × Int) (N : Nat) (g : Nat × Nat) (F : XP) : Prop := ∀ (h : XH) (w : Int), PK P N h → 0 ≤ w → w < 24 → ∃ v, F 193 [182, w] ((a_g3, g), h) = some (1, [v], ((a_g3, g), h)) ∧ (v = 0 ∨ v = 1) ∧ (v ≠ 0 ↔ tkW h w)
section PAR2
variable {P : Int × Int} {N : Nat} {g : Nat × Nat} {xs : Nat → Int} {L K n : Nat} {ck : Nat → List Nat} {cW : Nat → Nat → Int} {h : XH}
theorem g_191 : G191 P N g (evF xs L ck K cW g_M (n + 1)) := fun h w hp w1_w w2_w => by
  suffices hs : ∃ r h', evF xs L ck K cW g_M (n + 1) 191 [182, w] ((a_g3, g), h) = some (1, r, ((a_g3, g), h')) ∧ r = [] ∧ PA N h h' ∧ h' 182 7 = h 182 7 ∧ h' 182 8 ≠ 0 ∧ (h 182 8 = 0 → h' 182 8 = w + 16 * h 185 (h 182 7).toNat) by
    obtain ⟨r, h', e1_w, rfl, e2_w⟩ := hs
    exact ⟨h', e1_w, e2_w⟩
  refine tr_of gm_191 (B := fun r h' => r = [] ∧ PA N h h' ∧ h' 182 7 = h 182 7 ∧ h' 182 8 ≠ 0 ∧ (h 182 8 = 0 → h' 182 8 = w + 16 * h 185 (h 182 7).toNat)) ?_
  show wS _ _ K bb_191 [182, w] h _
  generalize evF xs L ck K cW g_M n = F
  unfold bb_191
  simp only [wf_4, wf_40, wf_5, wf_50, wf_6, wl_1, wt_1, wu_1, wa_1, wl_4, wt_4, wu_4, wa_4, wl_5, wt_5, wu_5, wa_5, wl_6, wt_6, wu_6, wa_6, wl_9, wt_9, wu_9, wa_9, wl_10, wt_10, wu_10, wa_10, wl_11, wt_11, wu_11, wa_11, wl_13, wt_13, wu_13, wa_13, wl_14, wt_14, wu_14, wa_14, wl_15, wt_15, wu_15, wa_15, wl_16, wt_16, wu_16, wa_16, wl_17, wt_17, wu_17, wa_17, wl_20, wt_20, wu_20, wa_20, wl_21, wt_21, wu_21, wa_21, wl_22, wt_22, wu_22, wa_22, wl_23, wt_23, wu_23, wa_23, wl_24, wt_24, wu_24, wa_24, wl_26, wt_26, wu_26, wa_26, wl_27, wt_27, wu_27, wa_27, wl_28, wt_28, wu_28, wa_28, we_1, we_3, we_10, we_14, we_15, we_16, we_17, we_18, we_20, we_21, we_22, we_24, we_25, we_26, we_27, we_28, we_30, we_31, we_32, wc_20, wc_21, wc_22, wc_24, wc_25, wc_26, wc_27, wc_3, wc_4, wc_7, wc_28, wc_32, ws_1, ws_2, ws_3, ws_4, ws_9, ws_10, ws_11, ws_14, ws_15, ws_16, ws_27, ws_17, ws_20, ws_28, kc_0, kc_1, kn_1, kc_2, kn_2, kc_3, kc_4, kc_5, kc_6, kc_7, kc_8, kc_9, kc_10, kc_12, kc_13, kc_14, kc_16, kc_17, kc_18, kc_19, kc_20, kc_21, kc_22, kc_24, kc_28, kc_30, kc_32, kc_37, kc_40, kc_41, kc_42, kc_43, kc_45, kc_48, kc_56, kc_57, kc_59, kc_60, kc_61, kc_64, kc_73, kc_78, kc_91, kc_95, kc_96, kc_97, kc_98, kc_99, kc_100, kc_112, kc_122, kc_125, kc_126, kc_150, kc_162, kc_163, kc_168, kc_186, kc_190, kc_200, kc_250, kc_255, kc_355, kc_356, kc_404, kc_405, kc_429, kc_573, kc_999, kc_1000, kc_1002, kc_1100, kc_1891, kc_2200, kc_4719, kc_4869, kc_4881, kc_5148, kc_9999, kn_9999, kc_10000, kc_12345, kc_19741, kc_25433, kc_65536, kc_320403, kc_628412, kc_629093, kc_660401, kc_679843, kc_918640, kc_979410, kc_1178088, kc_6232410, kc_24644941, kc_36238189, kc_38270444, kc_392531318, kc_425693491, kc_1103515245, kc_1342154595, kc_2147483648, kc_42328242873, kc_891704255789, kc_1722105685577, kc_1858726030364, ct_0, ct_1, ct_2, ct_3, ct_4, ct_5, cf_0, cf_1, cf_2, cf_3, cf_4, cf_5, w_ty6, w_ty7, m_sv, m_z0, m_hd, m_g0, m_gs, m_s0, m_ss, m_ap, m_an, forall_const, true_and, and_true, ne_eq, not_true_eq_false, not_false_eq_true, false_implies, true_implies, implies_true, eq_self, reduceCtorEq, Nat.reduceDiv, Nat.reduceMod, Int.reduceToNat, or_true, true_or, or_false, false_or, or_self, m_it, m_if, m_c1, m_01, m_02, m_03, m_04, m_10, m_12, m_13, m_14, m_20, m_21, m_23, m_24, m_30, m_31, m_32, m_34, m_40, m_41, m_42, m_43]
  have pl := p_place hp
  have rf := PA.rf hp
  obtain ⟨q, ⟨p1_w, p2_w, p3_w, p4_w, p5_w, p6_w, p7_w⟩, d⟩ := hp
  refine ⟨fun k => ?_, fun k => ⟨rf, k, fun k2 => absurd k2 k⟩⟩
  rw [jmul (by omega) (by omega), jadd (by omega) (by omega)]
  refine ⟨⟨p2_w, by omega⟩, ⟨fun o i e => up_ne (fun z => (e z.1).2 z.2), ?_, ?_, fun k2 => absurd k k2, ?_, ?_⟩, up_ne (fun z => absurd z.2 (by decide)), ?_, fun _ => up_eq⟩
  · rw [up_eq]
    omega
  · rw [up_eq]
    exact ⟨by omega, by omega⟩
  · rw [up_ne (fun z => absurd z.2 (by decide))]
    exact Int.le_refl _
  · rw [up_ne (fun z => absurd z.2 (by decide))]
    exact p3_w
  · rw [up_eq]
    omega
theorem g_192 : G192 P N g (evF xs L ck K cW g_M (n + 1)) := fun h c hp hc_w => by
  suffices hs : ∃ r h', evF xs L ck K cW g_M (n + 1) 192 [182, c] ((a_g3, g), h) = some (1, r, ((a_g3, g), h')) ∧ h' = h ∧ ∃ v, r = [v] ∧ (v = 0 ∨ v = 1) ∧ (v ≠ 0 ↔ tkS h c) by
    obtain ⟨r, h', e1_w, rfl, v, rfl, e2_w⟩ := hs
    exact ⟨v, e1_w, e2_w⟩
  refine tr_of gm_192 (B := fun r h' => h' = h ∧ ∃ v, r = [v] ∧ (v = 0 ∨ v = 1) ∧ (v ≠ 0 ↔ tkS h c)) ?_
  show wS _ _ K bb_192 [182, c] h _
  generalize evF xs L ck K cW g_M n = F
  unfold bb_192
  simp only [wf_4, wf_40, wf_5, wf_50, wf_6, wl_1, wt_1, wu_1, wa_1, wl_4, wt_4, wu_4, wa_4, wl_5, wt_5, wu_5, wa_5, wl_6, wt_6, wu_6, wa_6, wl_9, wt_9, wu_9, wa_9, wl_10, wt_10, wu_10, wa_10, wl_11, wt_11, wu_11, wa_11, wl_13, wt_13, wu_13, wa_13, wl_14, wt_14, wu_14, wa_14, wl_15, wt_15, wu_15, wa_15, wl_16, wt_16, wu_16, wa_16, wl_17, wt_17, wu_17, wa_17, wl_20, wt_20, wu_20, wa_20, wl_21, wt_21, wu_21, wa_21, wl_22, wt_22, wu_22, wa_22, wl_23, wt_23, wu_23, wa_23, wl_24, wt_24, wu_24, wa_24, wl_26, wt_26, wu_26, wa_26, wl_27, wt_27, wu_27, wa_27, wl_28, wt_28, wu_28, wa_28, we_1, we_3, we_10, we_14, we_15, we_16, we_17, we_18, we_20, we_21, we_22, we_24, we_25, we_26, we_27, we_28, we_30, we_31, we_32, wc_20, wc_21, wc_22, wc_24, wc_25, wc_26, wc_27, wc_3, wc_4, wc_7, wc_28, wc_32, ws_1, ws_2, ws_3, ws_4, ws_9, ws_10, ws_11, ws_14, ws_15, ws_16, ws_27, ws_17, ws_20, ws_28, kc_0, kc_1, kn_1, kc_2, kn_2, kc_3, kc_4, kc_5, kc_6, kc_7, kc_8, kc_9, kc_10, kc_12, kc_13, kc_14, kc_16, kc_17, kc_18, kc_19, kc_20, kc_21, kc_22, kc_24, kc_28, kc_30, kc_32, kc_37, kc_40, kc_41, kc_42, kc_43, kc_45, kc_48, kc_56, kc_57, kc_59, kc_60, kc_61, kc_64, kc_73, kc_78, kc_91, kc_95, kc_96, kc_97, kc_98, kc_99, kc_100, kc_112, kc_122, kc_125, kc_126, kc_150, kc_162, kc_163, kc_168, kc_186, kc_190, kc_200, kc_250, kc_255, kc_355, kc_356, kc_404, kc_405, kc_429, kc_573, kc_999, kc_1000, kc_1002, kc_1100, kc_1891, kc_2200, kc_4719, kc_4869, kc_4881, kc_5148, kc_9999, kn_9999, kc_10000, kc_12345, kc_19741, kc_25433, kc_65536, kc_320403, kc_628412, kc_629093, kc_660401, kc_679843, kc_918640, kc_979410, kc_1178088, kc_6232410, kc_24644941, kc_36238189, kc_38270444, kc_392531318, kc_425693491, kc_1103515245, kc_1342154595, kc_2147483648, kc_42328242873, kc_891704255789, kc_1722105685577, kc_1858726030364, ct_0, ct_1, ct_2, ct_3, ct_4, ct_5, cf_0, cf_1, cf_2, cf_3, cf_4, cf_5, w_ty6, w_ty7, m_sv, m_z0, m_hd, m_g0, m_gs, m_s0, m_ss, m_ap, m_an, forall_const, true_and, and_true, ne_eq, not_true_eq_false, not_false_eq_true, false_implies, true_implies, implies_true, eq_self, reduceCtorEq, Nat.reduceDiv, Nat.reduceMod, Int.reduceToNat, or_true, true_or, or_false, false_or, or_self, m_it, m_if, m_c1, m_01, m_02, m_03, m_04, m_10, m_12, m_13, m_14, m_20, m_21, m_23, m_24, m_30, m_31, m_32, m_34, m_40, m_41, m_42, m_43]
  obtain ⟨q, ⟨p1_w, p2_w, p3_w, p4_w, p5_w, p6_w, p7_w⟩, d⟩ := hp
  have ba_w : 0 ≤ h 182 7 ∧ h 182 7 < 1002 := ⟨p2_w, by omega⟩
  have no : ¬tkS h c → ∃ v, [(0 : Int)] = [v] ∧ (v = 0 ∨ v = 1) ∧ (¬v = 0 ↔ tkS h c) := fun k => ⟨0, rfl, Or.inl rfl, fun k2 => absurd rfl k2, fun k2 => absurd k2 k⟩
  exact ⟨fun k1_w => ⟨ba_w, fun k2 => ⟨ba_w, fun k3 => ⟨1, rfl, Or.inr rfl, fun _ => ⟨k1_w, k2, k3⟩, fun _ => by decide⟩, fun k3 => no (fun z => k3 z.2.2)⟩, fun k2 => no (fun z => k2 z.2.1)⟩, fun k1_w => no (fun z => k1_w z.1)⟩
theorem g_193 : G193 P N g (evF xs L ck K cW g_M (n + 1)) := fun h c hp c0 c1_w => by
  suffices hs : ∃ r h', evF xs L ck K cW g_M (n + 1) 193 [182, c] ((a_g3, g), h) = some (1, r, ((a_g3, g), h')) ∧ h' = h ∧ ∃ v, r = [v] ∧ (v = 0 ∨ v = 1) ∧ (v ≠ 0 ↔ tkW h c) by
    obtain ⟨r, h', e1_w, rfl, v, rfl, e2_w⟩ := hs
    exact ⟨v, e1_w, e2_w⟩
  refine tr_of gm_193 (B := fun r h' => h' = h ∧ ∃ v, r = [v] ∧ (v = 0 ∨ v = 1) ∧ (v ≠ 0 ↔ tkW h c)) ?_
  show wS _ _ K bb_193 [182, c] h _
  generalize evF xs L ck K cW g_M n = F
  unfold bb_193
  simp only [wf_4, wf_40, wf_5, wf_50, wf_6, wl_1, wt_1, wu_1, wa_1, wl_4, wt_4, wu_4, wa_4, wl_5, wt_5, wu_5, wa_5, wl_6, wt_6, wu_6, wa_6, wl_9, wt_9, wu_9, wa_9, wl_10, wt_10, wu_10, wa_10, wl_11, wt_11, wu_11, wa_11, wl_13, wt_13, wu_13, wa_13, wl_14, wt_14, wu_14, wa_14, wl_15, wt_15, wu_15, wa_15, wl_16, wt_16, wu_16, wa_16, wl_17, wt_17, wu_17, wa_17, wl_20, wt_20, wu_20, wa_20, wl_21, wt_21, wu_21, wa_21, wl_22, wt_22, wu_22, wa_22, wl_23, wt_23, wu_23, wa_23, wl_24, wt_24, wu_24, wa_24, wl_26, wt_26, wu_26, wa_26, wl_27, wt_27, wu_27, wa_27, wl_28, wt_28, wu_28, wa_28, we_1, we_3, we_10, we_14, we_15, we_16, we_17, we_18, we_20, we_21, we_22, we_24, we_25, we_26, we_27, we_28, we_30, we_31, we_32, wc_20, wc_21, wc_22, wc_24, wc_25, wc_26, wc_27, wc_3, wc_4, wc_7, wc_28, wc_32, ws_1, ws_2, ws_3, ws_4, ws_9, ws_10, ws_11, ws_14, ws_15, ws_16, ws_27, ws_17, ws_20, ws_28, kc_0, kc_1, kn_1, kc_2, kn_2, kc_3, kc_4, kc_5, kc_6, kc_7, kc_8, kc_9, kc_10, kc_12, kc_13, kc_14, kc_16, kc_17, kc_18, kc_19, kc_20, kc_21, kc_22, kc_24, kc_28, kc_30, kc_32, kc_37, kc_40, kc_41, kc_42, kc_43, kc_45, kc_48, kc_56, kc_57, kc_59, kc_60, kc_61, kc_64, kc_73, kc_78, kc_91, kc_95, kc_96, kc_97, kc_98, kc_99, kc_100, kc_112, kc_122, kc_125, kc_126, kc_150, kc_162, kc_163, kc_168, kc_186, kc_190, kc_200, kc_250, kc_255, kc_355, kc_356, kc_404, kc_405, kc_429, kc_573, kc_999, kc_1000, kc_1002, kc_1100, kc_1891, kc_2200, kc_4719, kc_4869, kc_4881, kc_5148, kc_9999, kn_9999, kc_10000, kc_12345, kc_19741, kc_25433, kc_65536, kc_320403, kc_628412, kc_629093, kc_660401, kc_679843, kc_918640, kc_979410, kc_1178088, kc_6232410, kc_24644941, kc_36238189, kc_38270444, kc_392531318, kc_425693491, kc_1103515245, kc_1342154595, kc_2147483648, kc_42328242873, kc_891704255789, kc_1722105685577, kc_1858726030364, ct_0, ct_1, ct_2, ct_3, ct_4, ct_5, cf_0, cf_1, cf_2, cf_3, cf_4, cf_5, w_ty6, w_ty7, m_sv, m_z0, m_hd, m_g0, m_gs, m_s0, m_ss, m_ap, m_an, forall_const, true_and, and_true, ne_eq, not_true_eq_false, not_false_eq_true, false_implies, true_implies, implies_true, eq_self, reduceCtorEq, Nat.reduceDiv, Nat.reduceMod, Int.reduceToNat, or_true, true_or, or_false, false_or, or_self, m_it, m_if, m_c1, m_01, m_02, m_03, m_04, m_10, m_12, m_13, m_14, m_20, m_21, m_23, m_24, m_30, m_31, m_32, m_34, m_40, m_41, m_42, m_43]
  obtain ⟨q, ⟨p1_w, p2_w, p3_w, p4_w, p5_w, p6_w, p7_w⟩, d⟩ := hp
  have ba_w : 0 ≤ h 182 7 ∧ h 182 7 < 1002 := ⟨p2_w, by omega⟩
  have no : ¬tkW h c → ∃ v, [(0 : Int)] = [v] ∧ (v = 0 ∨ v = 1) ∧ (¬v = 0 ↔ tkW h c) := fun k => ⟨0, rfl, Or.inl rfl, fun k2 => absurd rfl k2, fun k2 => absurd k2 k⟩
  exact ⟨fun k1_w => ⟨ba_w, fun k2 => ⟨ba_w, ⟨c0, c1_w⟩, fun k3 => ⟨1, rfl, Or.inr rfl, fun _ => ⟨k1_w, k2, k3⟩, fun _ => by decide⟩, fun k3 => no (fun z => k3 z.2.2)⟩, fun k2 => no (fun z => k2 z.2.1)⟩, fun k1_w => no (fun z => k1_w z.1)⟩
end PAR2
end
section
/-! ===== the reference's parser: its first steps_w ===== -/
def atp (h : XH) : XH := j_up h 182 7 (h 182 7 + 1)
def G194 (P : Int × Int) (N : Nat) (g : Nat × Nat) (F : XP) : Prop := ∀ (h : XH) (c : Int), PK P N h → InI c → ∃ h', F 194 [182, c] ((a_g3, g), h) = some (1, [], ((a_g3, g), h')) ∧ PA N h h' ∧ (tkS h c → h' = atp h) ∧ (¬tkS h c → h' 182 7 = h 182 7 ∧ h' 182 8 ≠ 0 ∧ (h 182 8 = 0 → h' 182 8 = 1 + 16 * h 185 (h 182 7).toNat))
def G195 (P : Int × Int) (N : Nat) (g : Nat × Nat) (F : XP) : Prop := ∀ (h : XH) (c : Int), PK P N h → InI c → ∃ v h', F 195 [182, c] ((a_g3, g), h) = some (1, [v], ((a_g3, g), h')) ∧ (v = 0 ∨ v = 1) ∧ (v ≠ 0 → tkS h c ∧ h' = atp h) ∧ (v = 0 → ¬tkS h c ∧ h' = h)
def G196 (P : Int × Int) (N : Nat) (g : Nat × Nat) (F : XP) : Prop := ∀ (h : XH) (w : Int), PK P N h → 0 ≤ w → w < 24 → ∃ v h', F 196 [182, w] ((a_g3, g), h) = some (1, [v], ((a_g3, g), h')) ∧ (v = 0 ∨ v = 1) ∧ (v ≠ 0 → tkW h w ∧ h' = atp h) ∧ (v = 0 → ¬tkW h w ∧ h' = h)
def G197 (P : Int × Int) (N : Nat) (g : Nat × Nat) (F : XP) : Prop := ∀ (h : XH) (w : Int), PK P N h → 0 ≤ w → w < 24 → ∃ h', F 197 [182, w] ((a_g3, g), h) = some (1, [], ((a_g3, g), h')) ∧ PA N h h' ∧ (tkW h w → h' = atp h) ∧ (¬tkW h w → h' 182 7 = h 182 7 ∧ h' 182 8 ≠ 0 ∧ (h 182 8 = 0 → h' 182 8 = 1 + 16 * h 185 (h 182 7).toNat))
def G200 (P : Int × Int) (N : Nat) (g : Nat × Nat) (F : XP) : Prop := ∀ (h : XH) (l u : Int), PK P N h → InI l → InI u → ∃ v h', F 200 [182, l, u] ((a_g3, g), h) = some (1, [v], ((a_g3, g), h')) ∧ PA N h h' ∧ InI v ∧ (h' 182 8 = 0 → l ≤ v ∧ v ≤ u ∧ h' = atp h ∧ h 182 8 = 0 ∧ h 184 (h 182 7).toNat = 2 ∧ v = h 186 (h 182 7).toNat) ∧ (h' 182 8 ≠ 0 → v = 0 ∧ h' 182 7 = h 182 7)
def G201 (P : Int × Int) (N : Nat) (g : Nat × Nat) (F : XP) : Prop := ∀ (h : XH) (a m : Int), PK P N h → 0 ≤ a → 0 ≤ m → a + m ≤ 24 → ∃ v, F 201 [182, a, m] ((a_g3, g), h) = some (1, [v], ((a_g3, g), h)) ∧ -1 ≤ v ∧ v < max m 1 ∧ (0 ≤ v → v < m ∧ tkW h (a + v)) ∧ (v = -1 → ∀ k, 0 ≤ k → k < m → ¬tkW h (a + k))
section PAR3
variable {P : Int × Int} {N : Nat} {g : Nat × Nat} {xs : Nat → Int} {L K n : Nat} {ck : Nat → List Nat} {cW : Nat → Nat → Int} {h : XH}
theorem jat (hp : PK P N h) : j_iop 0 (h 182 7) 1 = h 182 7 + 1 := by
  obtain ⟨q, ⟨p1_w, p2_w, p3_w, p4_w, p5_w, p6_w, p7_w⟩, d⟩ := hp
  exact jadd (by omega) (by omega)
theorem jat0 (hp : PK P N h) : j_iop 0 (h 182 7) 0 = h 182 7 := by
  obtain ⟨q, ⟨p1_w, p2_w, p3_w, p4_w, p5_w, p6_w, p7_w⟩, d⟩ := hp
  rw [jadd (by omega) (by omega)]
  omega
theorem tkS.pa {c : Int} (hp : PK P N h) (ht : tkS h c) : PA N h (atp h) := PA.next hp (by rw [ht.2.1]; decide)
theorem tkW.pa {c : Int} (hp : PK P N h) (ht : tkW h c) : PA N h (atp h) := PA.next hp (by rw [ht.2.1]; decide)
theorem g_194 (c192 : G192 P N g (evF xs L ck K cW g_M n)) (c191 : G191 P N g (evF xs L ck K cW g_M n)) : G194 P N g (evF xs L ck K cW g_M (n + 1)) := fun h c hp hc_w => by
  suffices hs : ∃ r h', evF xs L ck K cW g_M (n + 1) 194 [182, c] ((a_g3, g), h) = some (1, r, ((a_g3, g), h')) ∧ r = [] ∧ PA N h h' ∧ (tkS h c → h' = atp h) ∧ (¬tkS h c → h' 182 7 = h 182 7 ∧ h' 182 8 ≠ 0 ∧ (h 182 8 = 0 → h' 182 8 = 1 + 16 * h 185 (h 182 7).toNat)) by
    obtain ⟨r, h', e1_w, rfl, e2_w⟩ := hs
    exact ⟨h', e1_w, e2_w⟩
  refine tr_of gm_194 (B := fun r h' => r = [] ∧ PA N h h' ∧ (tkS h c → h' = atp h) ∧ (¬tkS h c → h' 182 7 = h 182 7 ∧ h' 182 8 ≠ 0 ∧ (h 182 8 = 0 → h' 182 8 = 1 + 16 * h 185 (h 182 7).toNat))) ?_
  show wS _ _ K bb_194 [182, c] h _
  generalize evF xs L ck K cW g_M n = F at c192 c191 ⊢
  unfold bb_194
  simp only [wf_4, wf_40, wf_5, wf_50, wf_6, wl_1, wt_1, wu_1, wa_1, wl_4, wt_4, wu_4, wa_4, wl_5, wt_5, wu_5, wa_5, wl_6, wt_6, wu_6, wa_6, wl_9, wt_9, wu_9, wa_9, wl_10, wt_10, wu_10, wa_10, wl_11, wt_11, wu_11, wa_11, wl_13, wt_13, wu_13, wa_13, wl_14, wt_14, wu_14, wa_14, wl_15, wt_15, wu_15, wa_15, wl_16, wt_16, wu_16, wa_16, wl_17, wt_17, wu_17, wa_17, wl_20, wt_20, wu_20, wa_20, wl_21, wt_21, wu_21, wa_21, wl_22, wt_22, wu_22, wa_22, wl_23, wt_23, wu_23, wa_23, wl_24, wt_24, wu_24, wa_24, wl_26, wt_26, wu_26, wa_26, wl_27, wt_27, wu_27, wa_27, wl_28, wt_28, wu_28, wa_28, we_1, we_3, we_10, we_14, we_15, we_16, we_17, we_18, we_20, we_21, we_22, we_24, we_25, we_26, we_27, we_28, we_30, we_31, we_32, wc_20, wc_21, wc_22, wc_24, wc_25, wc_26, wc_27, wc_3, wc_4, wc_7, wc_28, wc_32, ws_1, ws_2, ws_3, ws_4, ws_9, ws_10, ws_11, ws_14, ws_15, ws_16, ws_27, ws_17, ws_20, ws_28, kc_0, kc_1, kn_1, kc_2, kn_2, kc_3, kc_4, kc_5, kc_6, kc_7, kc_8, kc_9, kc_10, kc_12, kc_13, kc_14, kc_16, kc_17, kc_18, kc_19, kc_20, kc_21, kc_22, kc_24, kc_28, kc_30, kc_32, kc_37, kc_40, kc_41, kc_42, kc_43, kc_45, kc_48, kc_56, kc_57, kc_59, kc_60, kc_61, kc_64, kc_73, kc_78, kc_91, kc_95, kc_96, kc_97, kc_98, kc_99, kc_100, kc_112, kc_122, kc_125, kc_126, kc_150, kc_162, kc_163, kc_168, kc_186, kc_190, kc_200, kc_250, kc_255, kc_355, kc_356, kc_404, kc_405, kc_429, kc_573, kc_999, kc_1000, kc_1002, kc_1100, kc_1891, kc_2200, kc_4719, kc_4869, kc_4881, kc_5148, kc_9999, kn_9999, kc_10000, kc_12345, kc_19741, kc_25433, kc_65536, kc_320403, kc_628412, kc_629093, kc_660401, kc_679843, kc_918640, kc_979410, kc_1178088, kc_6232410, kc_24644941, kc_36238189, kc_38270444, kc_392531318, kc_425693491, kc_1103515245, kc_1342154595, kc_2147483648, kc_42328242873, kc_891704255789, kc_1722105685577, kc_1858726030364, ct_0, ct_1, ct_2, ct_3, ct_4, ct_5, cf_0, cf_1, cf_2, cf_3, cf_4, cf_5, w_ty6, w_ty7, m_sv, m_z0, m_hd, m_g0, m_gs, m_s0, m_ss, m_ap, m_an, forall_const, true_and, and_true, ne_eq, not_true_eq_false, not_false_eq_true, false_implies, true_implies, implies_true, eq_self, reduceCtorEq, Nat.reduceDiv, Nat.reduceMod, Int.reduceToNat, or_true, true_or, or_false, false_or, or_self, m_it, m_if, m_c1, m_01, m_02, m_03, m_04, m_10, m_12, m_13, m_14, m_20, m_21, m_23, m_24, m_30, m_31, m_32, m_34, m_40, m_41, m_42, m_43]
  obtain ⟨v, e1_w, e2_w, e3_w⟩ := c192 h c hp hc_w
  refine ⟨[v], h, e1_w, fun k => ?_, fun k => ?_⟩
  · have ht := e3_w.mp k
    rw [jat hp]
    exact ⟨tkS.pa hp ht, fun _ => rfl, fun k2 => absurd ht k2⟩
  · obtain ⟨h', f1_w, f2_w, f3_w, f4_w, f5_w⟩ := c191 h 1 hp (by decide) (by decide)
    have hn : ¬tkS h c := fun z => absurd k (e3_w.mpr z)
    exact ⟨[], h', f1_w, f2_w, fun z => absurd z hn, fun _ => ⟨f3_w, f4_w, f5_w⟩⟩
theorem g_195 (c192 : G192 P N g (evF xs L ck K cW g_M n)) : G195 P N g (evF xs L ck K cW g_M (n + 1)) := fun h c hp hc_w => by
  suffices hs : ∃ r h', evF xs L ck K cW g_M (n + 1) 195 [182, c] ((a_g3, g), h) = some (1, r, ((a_g3, g), h')) ∧ ∃ v, r = [v] ∧ (v = 0 ∨ v = 1) ∧ (v ≠ 0 → tkS h c ∧ h' = atp h) ∧ (v = 0 → ¬tkS h c ∧ h' = h) by
    obtain ⟨r, h', e1_w, v, rfl, e2_w⟩ := hs
    exact ⟨v, h', e1_w, e2_w⟩
  refine tr_of gm_195 (B := fun r h' => ∃ v, r = [v] ∧ (v = 0 ∨ v = 1) ∧ (v ≠ 0 → tkS h c ∧ h' = atp h) ∧ (v = 0 → ¬tkS h c ∧ h' = h)) ?_
  show wS _ _ K bb_195 [182, c, 0] h _
  generalize evF xs L ck K cW g_M n = F at c192 ⊢
  unfold bb_195
  simp only [wf_4, wf_40, wf_5, wf_50, wf_6, wl_1, wt_1, wu_1, wa_1, wl_4, wt_4, wu_4, wa_4, wl_5, wt_5, wu_5, wa_5, wl_6, wt_6, wu_6, wa_6, wl_9, wt_9, wu_9, wa_9, wl_10, wt_10, wu_10, wa_10, wl_11, wt_11, wu_11, wa_11, wl_13, wt_13, wu_13, wa_13, wl_14, wt_14, wu_14, wa_14, wl_15, wt_15, wu_15, wa_15, wl_16, wt_16, wu_16, wa_16, wl_17, wt_17, wu_17, wa_17, wl_20, wt_20, wu_20, wa_20, wl_21, wt_21, wu_21, wa_21, wl_22, wt_22, wu_22, wa_22, wl_23, wt_23, wu_23, wa_23, wl_24, wt_24, wu_24, wa_24, wl_26, wt_26, wu_26, wa_26, wl_27, wt_27, wu_27, wa_27, wl_28, wt_28, wu_28, wa_28, we_1, we_3, we_10, we_14, we_15, we_16, we_17, we_18, we_20, we_21, we_22, we_24, we_25, we_26, we_27, we_28, we_30, we_31, we_32, wc_20, wc_21, wc_22, wc_24, wc_25, wc_26, wc_27, wc_3, wc_4, wc_7, wc_28, wc_32, ws_1, ws_2, ws_3, ws_4, ws_9, ws_10, ws_11, ws_14, ws_15, ws_16, ws_27, ws_17, ws_20, ws_28, kc_0, kc_1, kn_1, kc_2, kn_2, kc_3, kc_4, kc_5, kc_6, kc_7, kc_8, kc_9, kc_10, kc_12, kc_13, kc_14, kc_16, kc_17, kc_18, kc_19, kc_20, kc_21, kc_22, kc_24, kc_28, kc_30, kc_32, kc_37, kc_40, kc_41, kc_42, kc_43, kc_45, kc_48, kc_56, kc_57, kc_59, kc_60, kc_61, kc_64, kc_73, kc_78, kc_91, kc_95, kc_96, kc_97, kc_98, kc_99, kc_100, kc_112, kc_122, kc_125, kc_126, kc_150, kc_162, kc_163, kc_168, kc_186, kc_190, kc_200, kc_250, kc_255, kc_355, kc_356, kc_404, kc_405, kc_429, kc_573, kc_999, kc_1000, kc_1002, kc_1100, kc_1891, kc_2200, kc_4719, kc_4869, kc_4881, kc_5148, kc_9999, kn_9999, kc_10000, kc_12345, kc_19741, kc_25433, kc_65536, kc_320403, kc_628412, kc_629093, kc_660401, kc_679843, kc_918640, kc_979410, kc_1178088, kc_6232410, kc_24644941, kc_36238189, kc_38270444, kc_392531318, kc_425693491, kc_1103515245, kc_1342154595, kc_2147483648, kc_42328242873, kc_891704255789, kc_1722105685577, kc_1858726030364, ct_0, ct_1, ct_2, ct_3, ct_4, ct_5, cf_0, cf_1, cf_2, cf_3, cf_4, cf_5, w_ty6, w_ty7, m_sv, m_z0, m_hd, m_g0, m_gs, m_s0, m_ss, m_ap, m_an, forall_const, true_and, and_true, ne_eq, not_true_eq_false, not_false_eq_true, false_implies, true_implies, implies_true, eq_self, reduceCtorEq, Nat.reduceDiv, Nat.reduceMod, Int.reduceToNat, or_true, true_or, or_false, false_or, or_self, m_it, m_if, m_c1, m_01, m_02, m_03, m_04, m_10, m_12, m_13, m_14, m_20, m_21, m_23, m_24, m_30, m_31, m_32, m_34, m_40, m_41, m_42, m_43]
  obtain ⟨v, e1_w, e2_w, e3_w⟩ := c192 h c hp hc_w
  exact ⟨[v], h, e1_w, fun k => ⟨e2_w, v, rfl, e2_w, fun _ => ⟨e3_w.mp k, by rw [jat hp]; rfl⟩, fun k2 => absurd k2 k⟩, fun k => ⟨e2_w, v, rfl, e2_w, fun k2 => absurd k k2, fun _ => ⟨fun z => absurd k (e3_w.mpr z), by rw [jat0 hp, up_self]⟩⟩⟩
theorem g_196 (c193 : G193 P N g (evF xs L ck K cW g_M n)) : G196 P N g (evF xs L ck K cW g_M (n + 1)) := fun h c hp c0 c1_w => by
  suffices hs : ∃ r h', evF xs L ck K cW g_M (n + 1) 196 [182, c] ((a_g3, g), h) = some (1, r, ((a_g3, g), h')) ∧ ∃ v, r = [v] ∧ (v = 0 ∨ v = 1) ∧ (v ≠ 0 → tkW h c ∧ h' = atp h) ∧ (v = 0 → ¬tkW h c ∧ h' = h) by
    obtain ⟨r, h', e1_w, v, rfl, e2_w⟩ := hs
    exact ⟨v, h', e1_w, e2_w⟩
  refine tr_of gm_196 (B := fun r h' => ∃ v, r = [v] ∧ (v = 0 ∨ v = 1) ∧ (v ≠ 0 → tkW h c ∧ h' = atp h) ∧ (v = 0 → ¬tkW h c ∧ h' = h)) ?_
  show wS _ _ K bb_196 [182, c, 0] h _
  generalize evF xs L ck K cW g_M n = F at c193 ⊢
  unfold bb_196
  simp only [wf_4, wf_40, wf_5, wf_50, wf_6, wl_1, wt_1, wu_1, wa_1, wl_4, wt_4, wu_4, wa_4, wl_5, wt_5, wu_5, wa_5, wl_6, wt_6, wu_6, wa_6, wl_9, wt_9, wu_9, wa_9, wl_10, wt_10, wu_10, wa_10, wl_11, wt_11, wu_11, wa_11, wl_13, wt_13, wu_13, wa_13, wl_14, wt_14, wu_14, wa_14, wl_15, wt_15, wu_15, wa_15, wl_16, wt_16, wu_16, wa_16, wl_17, wt_17, wu_17, wa_17, wl_20, wt_20, wu_20, wa_20, wl_21, wt_21, wu_21, wa_21, wl_22, wt_22, wu_22, wa_22, wl_23, wt_23, wu_23, wa_23, wl_24, wt_24, wu_24, wa_24, wl_26, wt_26, wu_26, wa_26, wl_27, wt_27, wu_27, wa_27, wl_28, wt_28, wu_28, wa_28, we_1, we_3, we_10, we_14, we_15, we_16, we_17, we_18, we_20, we_21, we_22, we_24, we_25, we_26, we_27, we_28, we_30, we_31, we_32, wc_20, wc_21, wc_22, wc_24, wc_25, wc_26, wc_27, wc_3, wc_4, wc_7, wc_28, wc_32, ws_1, ws_2, ws_3, ws_4, ws_9, ws_10, ws_11, ws_14, ws_15, ws_16, ws_27, ws_17, ws_20, ws_28, kc_0, kc_1, kn_1, kc_2, kn_2, kc_3, kc_4, kc_5, kc_6, kc_7, kc_8, kc_9, kc_10, kc_12, kc_13, kc_14, kc_16, kc_17, kc_18, kc_19, kc_20, kc_21, kc_22, kc_24, kc_28, kc_30, kc_32, kc_37, kc_40, kc_41, kc_42, kc_43, kc_45, kc_48, kc_56, kc_57, kc_59, kc_60, kc_61, kc_64, kc_73, kc_78, kc_91, kc_95, kc_96, kc_97, kc_98, kc_99, kc_100, kc_112, kc_122, kc_125, kc_126, kc_150, kc_162, kc_163, kc_168, kc_186, kc_190, kc_200, kc_250, kc_255, kc_355, kc_356, kc_404, kc_405, kc_429, kc_573, kc_999, kc_1000, kc_1002, kc_1100, kc_1891, kc_2200, kc_4719, kc_4869, kc_4881, kc_5148, kc_9999, kn_9999, kc_10000, kc_12345, kc_19741, kc_25433, kc_65536, kc_320403, kc_628412, kc_629093, kc_660401, kc_679843, kc_918640, kc_979410, kc_1178088, kc_6232410, kc_24644941, kc_36238189, kc_38270444, kc_392531318, kc_425693491, kc_1103515245, kc_1342154595, kc_2147483648, kc_42328242873, kc_891704255789, kc_1722105685577, kc_1858726030364, ct_0, ct_1, ct_2, ct_3, ct_4, ct_5, cf_0, cf_1, cf_2, cf_3, cf_4, cf_5, w_ty6, w_ty7, m_sv, m_z0, m_hd, m_g0, m_gs, m_s0, m_ss, m_ap, m_an, forall_const, true_and, and_true, ne_eq, not_true_eq_false, not_false_eq_true, false_implies, true_implies, implies_true, eq_self, reduceCtorEq, Nat.reduceDiv, Nat.reduceMod, Int.reduceToNat, or_true, true_or, or_false, false_or, or_self, m_it, m_if, m_c1, m_01, m_02, m_03, m_04, m_10, m_12, m_13, m_14, m_20, m_21, m_23, m_24, m_30, m_31, m_32, m_34, m_40, m_41, m_42, m_43]
  obtain ⟨v, e1_w, e2_w, e3_w⟩ := c193 h c hp c0 c1_w
  exact ⟨[v], h, e1_w, fun k => ⟨e2_w, v, rfl, e2_w, fun _ => ⟨e3_w.mp k, by rw [jat hp]; rfl⟩, fun k2 => absurd k2 k⟩, fun k => ⟨e2_w, v, rfl, e2_w, fun k2 => absurd k k2, fun _ => ⟨fun z => absurd k (e3_w.mpr z), by rw [jat0 hp, up_self]⟩⟩⟩
theorem g_197 (c196 : G196 P N g (evF xs L ck K cW g_M n)) (c191 : G191 P N g (evF xs L ck K cW g_M n)) : G197 P N g (evF xs L ck K cW g_M (n + 1)) := fun h c hp c0 c1_w => by
  suffices hs : ∃ r h', evF xs L ck K cW g_M (n + 1) 197 [182, c] ((a_g3, g), h) = some (1, r, ((a_g3, g), h')) ∧ r = [] ∧ PA N h h' ∧ (tkW h c → h' = atp h) ∧ (¬tkW h c → h' 182 7 = h 182 7 ∧ h' 182 8 ≠ 0 ∧ (h 182 8 = 0 → h' 182 8 = 1 + 16 * h 185 (h 182 7).toNat)) by
    obtain ⟨r, h', e1_w, rfl, e2_w⟩ := hs
    exact ⟨h', e1_w, e2_w⟩
  refine tr_of gm_197 (B := fun r h' => r = [] ∧ PA N h h' ∧ (tkW h c → h' = atp h) ∧ (¬tkW h c → h' 182 7 = h 182 7 ∧ h' 182 8 ≠ 0 ∧ (h 182 8 = 0 → h' 182 8 = 1 + 16 * h 185 (h 182 7).toNat))) ?_
  show wS _ _ K bb_197 [182, c] h _
  generalize evF xs L ck K cW g_M n = F at c196 c191 ⊢
  unfold bb_197
  simp only [wf_4, wf_40, wf_5, wf_50, wf_6, wl_1, wt_1, wu_1, wa_1, wl_4, wt_4, wu_4, wa_4, wl_5, wt_5, wu_5, wa_5, wl_6, wt_6, wu_6, wa_6, wl_9, wt_9, wu_9, wa_9, wl_10, wt_10, wu_10, wa_10, wl_11, wt_11, wu_11, wa_11, wl_13, wt_13, wu_13, wa_13, wl_14, wt_14, wu_14, wa_14, wl_15, wt_15, wu_15, wa_15, wl_16, wt_16, wu_16, wa_16, wl_17, wt_17, wu_17, wa_17, wl_20, wt_20, wu_20, wa_20, wl_21, wt_21, wu_21, wa_21, wl_22, wt_22, wu_22, wa_22, wl_23, wt_23, wu_23, wa_23, wl_24, wt_24, wu_24, wa_24, wl_26, wt_26, wu_26, wa_26, wl_27, wt_27, wu_27, wa_27, wl_28, wt_28, wu_28, wa_28, we_1, we_3, we_10, we_14, we_15, we_16, we_17, we_18, we_20, we_21, we_22, we_24, we_25, we_26, we_27, we_28, we_30, we_31, we_32, wc_20, wc_21, wc_22, wc_24, wc_25, wc_26, wc_27, wc_3, wc_4, wc_7, wc_28, wc_32, ws_1, ws_2, ws_3, ws_4, ws_9, ws_10, ws_11, ws_14, ws_15, ws_16, ws_27, ws_17, ws_20, ws_28, kc_0, kc_1, kn_1, kc_2, kn_2, kc_3, kc_4, kc_5, kc_6, kc_7, kc_8, kc_9, kc_10, kc_12, kc_13, kc_14, kc_16, kc_17, kc_18, kc_19, kc_20, kc_21, kc_22, kc_24, kc_28, kc_30, kc_32, kc_37, kc_40, kc_41, kc_42, kc_43, kc_45, kc_48, kc_56, kc_57, kc_59, kc_60, kc_61, kc_64, kc_73, kc_78, kc_91, kc_95, kc_96, kc_97, kc_98, kc_99, kc_100, kc_112, kc_122, kc_125, kc_126, kc_150, kc_162, kc_163, kc_168, kc_186, kc_190, kc_200, kc_250, kc_255, kc_355, kc_356, kc_404, kc_405, kc_429, kc_573, kc_999, kc_1000, kc_1002, kc_1100, kc_1891, kc_2200, kc_4719, kc_4869, kc_4881, kc_5148, kc_9999, kn_9999, kc_10000, kc_12345, kc_19741, kc_25433, kc_65536, kc_320403, kc_628412, kc_629093, kc_660401, kc_679843, kc_918640, kc_979410, kc_1178088, kc_6232410, kc_24644941, kc_36238189, kc_38270444, kc_392531318, kc_425693491, kc_1103515245, kc_1342154595, kc_2147483648, kc_42328242873, kc_891704255789, kc_1722105685577, kc_1858726030364, ct_0, ct_1, ct_2, ct_3, ct_4, ct_5, cf_0, cf_1, cf_2, cf_3, cf_4, cf_5, w_ty6, w_ty7, m_sv, m_z0, m_hd, m_g0, m_gs, m_s0, m_ss, m_ap, m_an, forall_const, true_and, and_true, ne_eq, not_true_eq_false, not_false_eq_true, false_implies, true_implies, implies_true, eq_self, reduceCtorEq, Nat.reduceDiv, Nat.reduceMod, Int.reduceToNat, or_true, true_or, or_false, false_or, or_self, m_it, m_if, m_c1, m_01, m_02, m_03, m_04, m_10, m_12, m_13, m_14, m_20, m_21, m_23, m_24, m_30, m_31, m_32, m_34, m_40, m_41, m_42, m_43]
  obtain ⟨v, h2, e1_w, e2_w, e3_w, e4_w⟩ := c196 h c hp c0 c1_w
  refine ⟨[v], h2, e1_w, fun k => ?_, fun k => ?_⟩
  · obtain ⟨ht, rfl⟩ := e3_w k
    exact ⟨tkW.pa hp ht, fun _ => rfl, fun k2 => absurd ht k2⟩
  · obtain ⟨hn, rfl⟩ := e4_w k
    obtain ⟨h', f1_w, f2_w, f3_w, f4_w, f5_w⟩ := c191 h2 1 hp (by decide) (by decide)
    exact ⟨[], h', f1_w, f2_w, fun z => absurd z hn, fun _ => ⟨f3_w, f4_w, f5_w⟩⟩
def B200 (N : Nat) (h : XH) (l u : Int) (r : List Int) (h' : XH) : Prop := ∃ v, r = [v] ∧ PA N h h' ∧ InI v ∧ (h' 182 8 = 0 → l ≤ v ∧ v ≤ u ∧ h' = atp h ∧ h 182 8 = 0 ∧ h 184 (h 182 7).toNat = 2 ∧ v = h 186 (h 182 7).toNat) ∧ (h' 182 8 ≠ 0 → v = 0 ∧ h' 182 7 = h 182 7)
theorem g_200 (c191 : G191 P N g (evF xs L ck K cW g_M n)) : G200 P N g (evF xs L ck K cW g_M (n + 1)) := fun h l u hp hl hu => by
  suffices hs : ∃ r h', evF xs L ck K cW g_M (n + 1) 200 [182, l, u] ((a_g3, g), h) = some (1, r, ((a_g3, g), h')) ∧ B200 N h l u r h' by
    obtain ⟨r, h', e1_w, v, rfl, e2_w⟩ := hs
    exact ⟨v, h', e1_w, e2_w⟩
  refine tr_of gm_200 ?_
  show wS _ _ K bb_200 [182, l, u] h _
  generalize evF xs L ck K cW g_M n = F at c191 ⊢
  unfold bb_200
  simp only [wf_4, wf_40, wf_5, wf_50, wf_6, wl_1, wt_1, wu_1, wa_1, wl_4, wt_4, wu_4, wa_4, wl_5, wt_5, wu_5, wa_5, wl_6, wt_6, wu_6, wa_6, wl_9, wt_9, wu_9, wa_9, wl_10, wt_10, wu_10, wa_10, wl_11, wt_11, wu_11, wa_11, wl_13, wt_13, wu_13, wa_13, wl_14, wt_14, wu_14, wa_14, wl_15, wt_15, wu_15, wa_15, wl_16, wt_16, wu_16, wa_16, wl_17, wt_17, wu_17, wa_17, wl_20, wt_20, wu_20, wa_20, wl_21, wt_21, wu_21, wa_21, wl_22, wt_22, wu_22, wa_22, wl_23, wt_23, wu_23, wa_23, wl_24, wt_24, wu_24, wa_24, wl_26, wt_26, wu_26, wa_26, wl_27, wt_27, wu_27, wa_27, wl_28, wt_28, wu_28, wa_28, we_1, we_3, we_10, we_14, we_15, we_16, we_17, we_18, we_20, we_21, we_22, we_24, we_25, we_26, we_27, we_28, we_30, we_31, we_32, wc_20, wc_21, wc_22, wc_24, wc_25, wc_26, wc_27, wc_3, wc_4, wc_7, wc_28, wc_32, ws_1, ws_2, ws_3, ws_4, ws_9, ws_10, ws_11, ws_14, ws_15, ws_16, ws_27, ws_17, ws_20, ws_28, kc_0, kc_1, kn_1, kc_2, kn_2, kc_3, kc_4, kc_5, kc_6, kc_7, kc_8, kc_9, kc_10, kc_12, kc_13, kc_14, kc_16, kc_17, kc_18, kc_19, kc_20, kc_21, kc_22, kc_24, kc_28, kc_30, kc_32, kc_37, kc_40, kc_41, kc_42, kc_43, kc_45, kc_48, kc_56, kc_57, kc_59, kc_60, kc_61, kc_64, kc_73, kc_78, kc_91, kc_95, kc_96, kc_97, kc_98, kc_99, kc_100, kc_112, kc_122, kc_125, kc_126, kc_150, kc_162, kc_163, kc_168, kc_186, kc_190, kc_200, kc_250, kc_255, kc_355, kc_356, kc_404, kc_405, kc_429, kc_573, kc_999, kc_1000, kc_1002, kc_1100, kc_1891, kc_2200, kc_4719, kc_4869, kc_4881, kc_5148, kc_9999, kn_9999, kc_10000, kc_12345, kc_19741, kc_25433, kc_65536, kc_320403, kc_628412, kc_629093, kc_660401, kc_679843, kc_918640, kc_979410, kc_1178088, kc_6232410, kc_24644941, kc_36238189, kc_38270444, kc_392531318, kc_425693491, kc_1103515245, kc_1342154595, kc_2147483648, kc_42328242873, kc_891704255789, kc_1722105685577, kc_1858726030364, ct_0, ct_1, ct_2, ct_3, ct_4, ct_5, cf_0, cf_1, cf_2, cf_3, cf_4, cf_5, w_ty6, w_ty7, m_sv, m_z0, m_hd, m_g0, m_gs, m_s0, m_ss, m_ap, m_an, forall_const, true_and, and_true, ne_eq, not_true_eq_false, not_false_eq_true, false_implies, true_implies, implies_true, eq_self, reduceCtorEq, Nat.reduceDiv, Nat.reduceMod, Int.reduceToNat, or_true, true_or, or_false, false_or, or_self, m_it, m_if, m_c1, m_01, m_02, m_03, m_04, m_10, m_12, m_13, m_14, m_20, m_21, m_23, m_24, m_30, m_31, m_32, m_34, m_40, m_41, m_42, m_43]
  have wr_w : ∀ (w : Int) (X : XH → Prop), 1 ≤ w → w ≤ 5 → ∃ r h2, F 191 [182, w] ((a_g3, g), h) = some (1, r, ((a_g3, g), h2)) ∧ (h2 182 8 > 0 → B200 N h l u [0] h2) ∧ (h2 182 8 ≤ 0 → X h2) := fun w X w1_w w2_w => by
    obtain ⟨h', f1_w, f2_w, f3_w, f4_w, f5_w⟩ := c191 h w hp w1_w w2_w
    have f6_w := f2_w.2.1
    exact ⟨[], h', f1_w, fun _ => ⟨0, rfl, f2_w, in_0, fun z => absurd z f4_w, fun _ => ⟨rfl, f3_w⟩⟩, fun z => by omega⟩
  have rf := PA.rf hp
  have hp2 := hp
  obtain ⟨q, ⟨p1_w, p2_w, p3_w, p4_w, p5_w, p6_w, p7_w⟩, d⟩ := hp2
  have ba_w : 0 ≤ h 182 7 ∧ h 182 7 < 1002 := ⟨p2_w, by omega⟩
  refine ⟨fun k1_w => ⟨ba_w, fun k2 => wr_w 1 _ (by decide) (by decide), fun k2 => ⟨fun _ => ⟨ba_w, fun k3 => wr_w 4 _ (by decide) (by decide), fun k3 => ⟨ba_w, fun k4 => wr_w 4 _ (by decide) (by decide), fun k4 => ⟨fun z => by omega, fun _ => ?_⟩⟩⟩, fun z => absurd k1_w z⟩⟩, fun k1_w => ⟨fun z => absurd z k1_w, fun _ => ⟨fun _ => ⟨0, rfl, rf, in_0, fun z => absurd z k1_w, fun _ => ⟨rfl, rfl⟩⟩, fun z => by omega⟩⟩⟩
  have k3 : l ≤ h 186 (h 182 7).toNat := k3
  have k4 : h 186 (h 182 7).toNat ≤ u := k4
  rw [jat hp, up_eq]
  have e1_w : j_iop 1 (h 182 7 + 1) 1 = h 182 7 := by rw [jsub (by omega) (by omega)]; omega
  rw [e1_w, up_ne (fun z => absurd z.1 (by decide))]
  have hin : InI (h 186 (h 182 7).toNat) := by
    unfold InI at hl hu ⊢
    omega
  have e2_w : j_un 3 (h 186 (h 182 7).toNat) = h 186 (h 182 7).toNat := j32_in hin
  rw [e2_w]
  refine ⟨ba_w, _, rfl, PA.next hp (by rw [k2]; decide), hin, fun _ => ⟨k3, k4, rfl, k1_w, k2, rfl⟩, fun z => absurd ?_ z⟩
  rw [up_ne (fun z => absurd z.2 (by decide))]
  exact k1_w
theorem g_201 (hK_w : 4294967300 ≤ K) (c193 : G193 P N g (evF xs L ck K cW g_M n)) : G201 P N g (evF xs L ck K cW g_M (n + 1)) := fun h a m hp a0_w m0_w am => by
  suffices hs : ∃ r h', evF xs L ck K cW g_M (n + 1) 201 [182, a, m] ((a_g3, g), h) = some (1, r, ((a_g3, g), h')) ∧ h' = h ∧ ∃ v, r = [v] ∧ -1 ≤ v ∧ v < max m 1 ∧ (0 ≤ v → v < m ∧ tkW h (a + v)) ∧ (v = -1 → ∀ k, 0 ≤ k → k < m → ¬tkW h (a + k)) by
    obtain ⟨r, h', e1_w, rfl, v, rfl, e2_w⟩ := hs
    exact ⟨v, e1_w, e2_w⟩
  refine tr_of gm_201 (B := fun r h' => h' = h ∧ ∃ v, r = [v] ∧ -1 ≤ v ∧ v < max m 1 ∧ (0 ≤ v → v < m ∧ tkW h (a + v)) ∧ (v = -1 → ∀ k, 0 ≤ k → k < m → ¬tkW h (a + k))) ?_
  show wS _ _ K bb_201 [182, a, m, 0, 0] h _
  generalize evF xs L ck K cW g_M n = F at c193 ⊢
  unfold bb_201
  simp only [wf_4, wf_40, wf_5, wf_50, wf_6, wl_1, wt_1, wu_1, wa_1, wl_4, wt_4, wu_4, wa_4, wl_5, wt_5, wu_5, wa_5, wl_6, wt_6, wu_6, wa_6, wl_9, wt_9, wu_9, wa_9, wl_10, wt_10, wu_10, wa_10, wl_11, wt_11, wu_11, wa_11, wl_13, wt_13, wu_13, wa_13, wl_14, wt_14, wu_14, wa_14, wl_15, wt_15, wu_15, wa_15, wl_16, wt_16, wu_16, wa_16, wl_17, wt_17, wu_17, wa_17, wl_20, wt_20, wu_20, wa_20, wl_21, wt_21, wu_21, wa_21, wl_22, wt_22, wu_22, wa_22, wl_23, wt_23, wu_23, wa_23, wl_24, wt_24, wu_24, wa_24, wl_26, wt_26, wu_26, wa_26, wl_27, wt_27, wu_27, wa_27, wl_28, wt_28, wu_28, wa_28, we_1, we_3, we_10, we_14, we_15, we_16, we_17, we_18, we_20, we_21, we_22, we_24, we_25, we_26, we_27, we_28, we_30, we_31, we_32, wc_20, wc_21, wc_22, wc_24, wc_25, wc_26, wc_27, wc_3, wc_4, wc_7, wc_28, wc_32, ws_1, ws_2, ws_3, ws_4, ws_9, ws_10, ws_11, ws_14, ws_15, ws_16, ws_27, ws_17, ws_20, ws_28, kc_0, kc_1, kn_1, kc_2, kn_2, kc_3, kc_4, kc_5, kc_6, kc_7, kc_8, kc_9, kc_10, kc_12, kc_13, kc_14, kc_16, kc_17, kc_18, kc_19, kc_20, kc_21, kc_22, kc_24, kc_28, kc_30, kc_32, kc_37, kc_40, kc_41, kc_42, kc_43, kc_45, kc_48, kc_56, kc_57, kc_59, kc_60, kc_61, kc_64, kc_73, kc_78, kc_91, kc_95, kc_96, kc_97, kc_98, kc_99, kc_100, kc_112, kc_122, kc_125, kc_126, kc_150, kc_162, kc_163, kc_168, kc_186, kc_190, kc_200, kc_250, kc_255, kc_355, kc_356, kc_404, kc_405, kc_429, kc_573, kc_999, kc_1000, kc_1002, kc_1100, kc_1891, kc_2200, kc_4719, kc_4869, kc_4881, kc_5148, kc_9999, kn_9999, kc_10000, kc_12345, kc_19741, kc_25433, kc_65536, kc_320403, kc_628412, kc_629093, kc_660401, kc_679843, kc_918640, kc_979410, kc_1178088, kc_6232410, kc_24644941, kc_36238189, kc_38270444, kc_392531318, kc_425693491, kc_1103515245, kc_1342154595, kc_2147483648, kc_42328242873, kc_891704255789, kc_1722105685577, kc_1858726030364, ct_0, ct_1, ct_2, ct_3, ct_4, ct_5, cf_0, cf_1, cf_2, cf_3, cf_4, cf_5, w_ty6, w_ty7, m_sv, m_z0, m_hd, m_g0, m_gs, m_s0, m_ss, m_ap, m_an, forall_const, true_and, and_true, ne_eq, not_true_eq_false, not_false_eq_true, false_implies, true_implies, implies_true, eq_self, reduceCtorEq, Nat.reduceDiv, Nat.reduceMod, Int.reduceToNat, or_true, true_or, or_false, false_or, or_self, m_it, m_if, m_c1, m_01, m_02, m_03, m_04, m_10, m_12, m_13, m_14, m_20, m_21, m_23, m_24, m_30, m_31, m_32, m_34, m_40, m_41, m_42, m_43]
  refine w_lp (fun en h' => ∃ v k : Int, en = [182, a, m, v, k] ∧ 0 ≤ k ∧ k ≤ m ∧ -1 ≤ v ∧ (0 ≤ v → v < k ∧ tkW h (a + v)) ∧ (v = -1 → ∀ i, 0 ≤ i → i < k → ¬tkW h (a + i)) ∧ h' = h) (fun en _ => (m - en.getD 4 0).toNat) ⟨-1, 0, rfl, by omega, by omega, by omega, fun z => absurd z (by decide), fun _ i i0 i1_w => by omega, rfl⟩ ?_
  rintro en h1 ⟨v, k, rfl, k0_w, k1_w, v0_w, v1_w, v2, rfl⟩
  refine ⟨?_, ?_⟩
  · show (m - k).toNat < K
    omega
  simp only [wf_4, wf_40, wf_5, wf_50, wf_6, wl_1, wt_1, wu_1, wa_1, wl_4, wt_4, wu_4, wa_4, wl_5, wt_5, wu_5, wa_5, wl_6, wt_6, wu_6, wa_6, wl_9, wt_9, wu_9, wa_9, wl_10, wt_10, wu_10, wa_10, wl_11, wt_11, wu_11, wa_11, wl_13, wt_13, wu_13, wa_13, wl_14, wt_14, wu_14, wa_14, wl_15, wt_15, wu_15, wa_15, wl_16, wt_16, wu_16, wa_16, wl_17, wt_17, wu_17, wa_17, wl_20, wt_20, wu_20, wa_20, wl_21, wt_21, wu_21, wa_21, wl_22, wt_22, wu_22, wa_22, wl_23, wt_23, wu_23, wa_23, wl_24, wt_24, wu_24, wa_24, wl_26, wt_26, wu_26, wa_26, wl_27, wt_27, wu_27, wa_27, wl_28, wt_28, wu_28, wa_28, we_1, we_3, we_10, we_14, we_15, we_16, we_17, we_18, we_20, we_21, we_22, we_24, we_25, we_26, we_27, we_28, we_30, we_31, we_32, wc_20, wc_21, wc_22, wc_24, wc_25, wc_26, wc_27, wc_3, wc_4, wc_7, wc_28, wc_32, ws_1, ws_2, ws_3, ws_4, ws_9, ws_10, ws_11, ws_14, ws_15, ws_16, ws_27, ws_17, ws_20, ws_28, kc_0, kc_1, kn_1, kc_2, kn_2, kc_3, kc_4, kc_5, kc_6, kc_7, kc_8, kc_9, kc_10, kc_12, kc_13, kc_14, kc_16, kc_17, kc_18, kc_19, kc_20, kc_21, kc_22, kc_24, kc_28, kc_30, kc_32, kc_37, kc_40, kc_41, kc_42, kc_43, kc_45, kc_48, kc_56, kc_57, kc_59, kc_60, kc_61, kc_64, kc_73, kc_78, kc_91, kc_95, kc_96, kc_97, kc_98, kc_99, kc_100, kc_112, kc_122, kc_125, kc_126, kc_150, kc_162, kc_163, kc_168, kc_186, kc_190, kc_200, kc_250, kc_255, kc_355, kc_356, kc_404, kc_405, kc_429, kc_573, kc_999, kc_1000, kc_1002, kc_1100, kc_1891, kc_2200, kc_4719, kc_4869, kc_4881, kc_5148, kc_9999, kn_9999, kc_10000, kc_12345, kc_19741, kc_25433, kc_65536, kc_320403, kc_628412, kc_629093, kc_660401, kc_679843, kc_918640, kc_979410, kc_1178088, kc_6232410, kc_24644941, kc_36238189, kc_38270444, kc_392531318, kc_425693491, kc_1103515245, kc_1342154595, kc_2147483648, kc_42328242873, kc_891704255789, kc_1722105685577, kc_1858726030364, ct_0, ct_1, ct_2, ct_3, ct_4, ct_5, cf_0, cf_1, cf_2, cf_3, cf_4, cf_5, w_ty6, w_ty7, m_sv, m_z0, m_hd, m_g0, m_gs, m_s0, m_ss, m_ap, m_an, forall_const, true_and, and_true, ne_eq, not_true_eq_false, not_false_eq_true, false_implies, true_implies, implies_true, eq_self, reduceCtorEq, Nat.reduceDiv, Nat.reduceMod, Int.reduceToNat, or_true, true_or, or_false, false_or, or_self, m_it, m_if, m_c1, m_01, m_02, m_03, m_04, m_10, m_12, m_13, m_14, m_20, m_21, m_23, m_24, m_30, m_31, m_32, m_34, m_40, m_41, m_42, m_43]
  refine ⟨fun hk => ?_, fun hk => ⟨v, rfl, v0_w, ?_, fun z => ?_, fun z i i0 i1_w => v2 z i i0 (by omega)⟩⟩
  · rw [jadd (x := a) (y := k) (by omega) (by omega), jinc (by omega) (by omega)]
    obtain ⟨w, e1_w, e2_w, e3_w⟩ := c193 h1 (a + k) hp (by omega) (by omega)
    refine ⟨[w], h1, e1_w, fun z => ⟨⟨k, k + 1, rfl, by omega, by omega, by omega, fun _ => ⟨by omega, e3_w.mp z⟩, fun z2 => by omega, rfl⟩, ?_⟩, fun z => ⟨⟨v, k + 1, rfl, by omega, by omega, v0_w, fun z2 => ⟨by have := (v1_w z2).1; omega, (v1_w z2).2⟩, fun z2 i i0 i1_w => ?_, rfl⟩, ?_⟩⟩
    · show (m - (k + 1)).toNat < (m - k).toNat
      omega
    · by_cases e : i = k
      · subst e
        exact fun z3 => absurd z (e3_w.mpr z3)
      · exact v2 z2 i i0 (by omega)
    · show (m - (k + 1)).toNat < (m - k).toNat
      omega
  · by_cases z : 0 ≤ v
    · have := (v1_w z).1
      omega
    · omega
  · have := v1_w z
    exact ⟨by omega, this.2⟩
end PAR3
end
section
/-! ===== the reference's parser: names_w and words of lists_w ===== -/
def G202 (P : Int × Int) (N : Nat) (g : Nat × Nat) (F : XP) : Prop := ∀ (h : XH) (a m : Int), PK P N h → 0 ≤ a → 1 ≤ m → a + m ≤ 24 → ∃ v h', F 202 [182, a, m] ((a_g3, g), h) = some (1, [v], ((a_g3, g), h')) ∧ PA N h h' ∧ InI v ∧ (h' 182 8 = 0 → 0 ≤ v ∧ v < m ∧ h' = atp h ∧ tkW h (a + v)) ∧ (h' 182 8 ≠ 0 → v = 0 ∧ h' 182 7 = h 182 7)
/-- a NAME: a WORD that is_w none of those that are kept -/
def tkN (h : XH) : Prop := h 182 8 = 0 ∧ h 184 (h 182 7).toNat = 1 ∧ ∀ k, 0 ≤ k → k < 20 → ¬tkW h k
def G203 (P : Int × Int) (N : Nat) (g : Nat × Nat) (F : XP) : Prop := ∀ (h : XH), PK P N h → ∃ v, F 203 [182] ((a_g3, g), h) = some (1, [v], ((a_g3, g), h)) ∧ (v = 0 ∨ v = 1) ∧ (v ≠ 0 ↔ tkN h)
def G204 (P : Int × Int) (N : Nat) (g : Nat × Nat) (F : XP) : Prop := ∀ (h : XH) (a m : Int), PK P N h → 0 ≤ a → 0 ≤ m → a + m ≤ 28 → ∃ v, F 204 [182, a, m] ((a_g3, g), h) = some (1, [v], ((a_g3, g), h)) ∧ -1 ≤ v ∧ (0 ≤ v → v < m ∧ h 190 (a + v).toNat = h 186 (h 182 7).toNat) ∧ (v = -1 → ∀ k, 0 ≤ k → k < m → h 190 (a + k).toNat ≠ h 186 (h 182 7).toNat)
def G205 (P : Int × Int) (N : Nat) (g : Nat × Nat) (F : XP) : Prop := ∀ (h : XH) (a m : Int), PK P N h → 0 ≤ a → 0 ≤ m → a + m ≤ 28 → ∃ v h', F 205 [182, a, m] ((a_g3, g), h) = some (1, [v], ((a_g3, g), h')) ∧ PA N h h' ∧ InI v ∧ (h' 182 8 = 0 → 0 ≤ v ∧ v < m ∧ h' = atp h ∧ tkN h) ∧ (h' 182 8 ≠ 0 → v = 0 ∧ h' 182 7 = h 182 7)
section PAR4
variable {P : Int × Int} {N : Nat} {g : Nat × Nat} {xs : Nat → Int} {L K n : Nat} {ck : Nat → List Nat} {cW : Nat → Nat → Int} {h : XH}
theorem atp_8 : atp h 182 8 = h 182 8 := up_ne (fun z => absurd z.2 (by decide))
/-- how takeOne and takeTold end -/
def Fin7 (B : List Int → XH → Prop) (h2 : XH) (x : Int) : Prop := (h2 182 8 > 0 → (j_up h2 182 7 (j_iop 0 (h2 182 7) 0) 182 8 > 0 → B [0] (j_up h2 182 7 (j_iop 0 (h2 182 7) 0))) ∧ (j_up h2 182 7 (j_iop 0 (h2 182 7) 0) 182 8 ≤ 0 → B [x] (j_up h2 182 7 (j_iop 0 (h2 182 7) 0)))) ∧ (h2 182 8 ≤ 0 → (j_up h2 182 7 (j_iop 0 (h2 182 7) 1) 182 8 > 0 → B [0] (j_up h2 182 7 (j_iop 0 (h2 182 7) 1))) ∧ (j_up h2 182 7 (j_iop 0 (h2 182 7) 1) 182 8 ≤ 0 → B [x] (j_up h2 182 7 (j_iop 0 (h2 182 7) 1))))
theorem fin7_f {B : List Int → XH → Prop} {h2 : XH} {x : Int} (h8 : h2 182 8 > 0) (hj : j_iop 0 (h2 182 7) 0 = h2 182 7) (hb_w : B [0] h2) : Fin7 B h2 x := by
  unfold Fin7
  rw [hj, up_self]
  exact ⟨fun _ => ⟨fun _ => hb_w, fun z => by omega⟩, fun z => by omega⟩
theorem fin7_o {B : List Int → XH → Prop} {h2 : XH} {x : Int} (h8 : h2 182 8 = 0) (hj : j_iop 0 (h2 182 7) 1 = h2 182 7 + 1) (hb_w : B [x] (atp h2)) : Fin7 B h2 x := by
  unfold Fin7
  rw [hj]
  refine ⟨fun z => by omega, fun _ => ⟨fun z => ?_, fun _ => hb_w⟩⟩
  rw [up_ne (fun z => absurd z.2 (by decide))] at z
  omega
def B202 (N : Nat) (h : XH) (a m : Int) (r : List Int) (h' : XH) : Prop := ∃ v, r = [v] ∧ PA N h h' ∧ InI v ∧ (h' 182 8 = 0 → 0 ≤ v ∧ v < m ∧ h' = atp h ∧ tkW h (a + v)) ∧ (h' 182 8 ≠ 0 → v = 0 ∧ h' 182 7 = h 182 7)
theorem g_202 (c201 : G201 P N g (evF xs L ck K cW g_M n)) (c191 : G191 P N g (evF xs L ck K cW g_M n)) : G202 P N g (evF xs L ck K cW g_M (n + 1)) := fun h a m hp a0_w m0_w am => by
  suffices hs : ∃ r h', evF xs L ck K cW g_M (n + 1) 202 [182, a, m] ((a_g3, g), h) = some (1, r, ((a_g3, g), h')) ∧ B202 N h a m r h' by
    obtain ⟨r, h', e1_w, v, rfl, e2_w⟩ := hs
    exact ⟨v, h', e1_w, e2_w⟩
  refine tr_of gm_202 ?_
  show wS _ _ K bb_202 [182, a, m, 0] h _
  generalize evF xs L ck K cW g_M n = F at c201 c191 ⊢
  unfold bb_202
  simp only [wf_4, wf_40, wf_5, wf_50, wf_6, wl_1, wt_1, wu_1, wa_1, wl_4, wt_4, wu_4, wa_4, wl_5, wt_5, wu_5, wa_5, wl_6, wt_6, wu_6, wa_6, wl_9, wt_9, wu_9, wa_9, wl_10, wt_10, wu_10, wa_10, wl_11, wt_11, wu_11, wa_11, wl_13, wt_13, wu_13, wa_13, wl_14, wt_14, wu_14, wa_14, wl_15, wt_15, wu_15, wa_15, wl_16, wt_16, wu_16, wa_16, wl_17, wt_17, wu_17, wa_17, wl_20, wt_20, wu_20, wa_20, wl_21, wt_21, wu_21, wa_21, wl_22, wt_22, wu_22, wa_22, wl_23, wt_23, wu_23, wa_23, wl_24, wt_24, wu_24, wa_24, wl_26, wt_26, wu_26, wa_26, wl_27, wt_27, wu_27, wa_27, wl_28, wt_28, wu_28, wa_28, we_1, we_3, we_10, we_14, we_15, we_16, we_17, we_18, we_20, we_21, we_22, we_24, we_25, we_26, we_27, we_28, we_30, we_31, we_32, wc_20, wc_21, wc_22, wc_24, wc_25, wc_26, wc_27, wc_3, wc_4, wc_7, wc_28, wc_32, ws_1, ws_2, ws_3, ws_4, ws_9, ws_10, ws_11, ws_14, ws_15, ws_16, ws_27, ws_17, ws_20, ws_28, kc_0, kc_1, kn_1, kc_2, kn_2, kc_3, kc_4, kc_5, kc_6, kc_7, kc_8, kc_9, kc_10, kc_12, kc_13, kc_14, kc_16, kc_17, kc_18, kc_19, kc_20, kc_21, kc_22, kc_24, kc_28, kc_30, kc_32, kc_37, kc_40, kc_41, kc_42, kc_43, kc_45, kc_48, kc_56, kc_57, kc_59, kc_60, kc_61, kc_64, kc_73, kc_78, kc_91, kc_95, kc_96, kc_97, kc_98, kc_99, kc_100, kc_112, kc_122, kc_125, kc_126, kc_150, kc_162, kc_163, kc_168, kc_186, kc_190, kc_200, kc_250, kc_255, kc_355, kc_356, kc_404, kc_405, kc_429, kc_573, kc_999, kc_1000, kc_1002, kc_1100, kc_1891, kc_2200, kc_4719, kc_4869, kc_4881, kc_5148, kc_9999, kn_9999, kc_10000, kc_12345, kc_19741, kc_25433, kc_65536, kc_320403, kc_628412, kc_629093, kc_660401, kc_679843, kc_918640, kc_979410, kc_1178088, kc_6232410, kc_24644941, kc_36238189, kc_38270444, kc_392531318, kc_425693491, kc_1103515245, kc_1342154595, kc_2147483648, kc_42328242873, kc_891704255789, kc_1722105685577, kc_1858726030364, ct_0, ct_1, ct_2, ct_3, ct_4, ct_5, cf_0, cf_1, cf_2, cf_3, cf_4, cf_5, w_ty6, w_ty7, m_sv, m_z0, m_hd, m_g0, m_gs, m_s0, m_ss, m_ap, m_an, forall_const, true_and, and_true, ne_eq, not_true_eq_false, not_false_eq_true, false_implies, true_implies, implies_true, eq_self, reduceCtorEq, Nat.reduceDiv, Nat.reduceMod, Int.reduceToNat, or_true, true_or, or_false, false_or, or_self, m_it, m_if, m_c1, m_01, m_02, m_03, m_04, m_10, m_12, m_13, m_14, m_20, m_21, m_23, m_24, m_30, m_31, m_32, m_34, m_40, m_41, m_42, m_43]
  have rf := PA.rf hp
  have p1_w := hp.2.1.1
  obtain ⟨v, e1_w, e2_w, e3_w, e4_w, e5_w⟩ := c201 h a m hp a0_w (by omega) am
  obtain ⟨h2, f1_w, f2_w, f3_w, f4_w, -⟩ := c191 h 1 hp (by decide) (by decide)
  have f5_w := f2_w.2.1
  have stop_w : ∀ x, Fin7 (B202 N h a m) h2 x := fun x => fin7_f (by omega) (by rw [f3_w]; exact jat0 hp) ⟨0, rfl, f2_w, in_0, fun z => absurd z f4_w, fun _ => ⟨rfl, f3_w⟩⟩
  have idle_w : h 182 8 ≠ 0 → ∀ x, Fin7 (B202 N h a m) h x := fun z x => fin7_f (by omega) (jat0 hp) ⟨0, rfl, rf, in_0, fun z2 => absurd z2 z, fun _ => ⟨rfl, rfl⟩⟩
  refine ⟨fun k1_w => ⟨fun z => by omega, fun z => idle_w z _⟩, fun k1_w => ⟨[v], h, e1_w, fun k2 => ⟨fun k3 => ⟨[], h2, f1_w, stop_w _⟩, fun k3 => ?_⟩, fun k2 => idle_w k2 _⟩⟩
  obtain ⟨g1, g2⟩ := e4_w k3
  have k4 : 0 ≤ v := k3
  exact fin7_o (B := B202 N h a m) k2 (jat hp) ⟨v, rfl, tkW.pa hp g2, ⟨by omega, by omega⟩, fun _ => ⟨k3, g1, rfl, g2⟩, fun z => absurd (atp_8.trans k2) z⟩
theorem g_203 (c201 : G201 P N g (evF xs L ck K cW g_M n)) : G203 P N g (evF xs L ck K cW g_M (n + 1)) := fun h hp => by
  suffices hs : ∃ r h', evF xs L ck K cW g_M (n + 1) 203 [182] ((a_g3, g), h) = some (1, r, ((a_g3, g), h')) ∧ h' = h ∧ ∃ v, r = [v] ∧ (v = 0 ∨ v = 1) ∧ (v ≠ 0 ↔ tkN h) by
    obtain ⟨r, h', e1_w, rfl, v, rfl, e2_w⟩ := hs
    exact ⟨v, e1_w, e2_w⟩
  refine tr_of gm_203 (B := fun r h' => h' = h ∧ ∃ v, r = [v] ∧ (v = 0 ∨ v = 1) ∧ (v ≠ 0 ↔ tkN h)) ?_
  show wS _ _ K bb_203 [182] h _
  generalize evF xs L ck K cW g_M n = F at c201 ⊢
  unfold bb_203
  simp only [wf_4, wf_40, wf_5, wf_50, wf_6, wl_1, wt_1, wu_1, wa_1, wl_4, wt_4, wu_4, wa_4, wl_5, wt_5, wu_5, wa_5, wl_6, wt_6, wu_6, wa_6, wl_9, wt_9, wu_9, wa_9, wl_10, wt_10, wu_10, wa_10, wl_11, wt_11, wu_11, wa_11, wl_13, wt_13, wu_13, wa_13, wl_14, wt_14, wu_14, wa_14, wl_15, wt_15, wu_15, wa_15, wl_16, wt_16, wu_16, wa_16, wl_17, wt_17, wu_17, wa_17, wl_20, wt_20, wu_20, wa_20, wl_21, wt_21, wu_21, wa_21, wl_22, wt_22, wu_22, wa_22, wl_23, wt_23, wu_23, wa_23, wl_24, wt_24, wu_24, wa_24, wl_26, wt_26, wu_26, wa_26, wl_27, wt_27, wu_27, wa_27, wl_28, wt_28, wu_28, wa_28, we_1, we_3, we_10, we_14, we_15, we_16, we_17, we_18, we_20, we_21, we_22, we_24, we_25, we_26, we_27, we_28, we_30, we_31, we_32, wc_20, wc_21, wc_22, wc_24, wc_25, wc_26, wc_27, wc_3, wc_4, wc_7, wc_28, wc_32, ws_1, ws_2, ws_3, ws_4, ws_9, ws_10, ws_11, ws_14, ws_15, ws_16, ws_27, ws_17, ws_20, ws_28, kc_0, kc_1, kn_1, kc_2, kn_2, kc_3, kc_4, kc_5, kc_6, kc_7, kc_8, kc_9, kc_10, kc_12, kc_13, kc_14, kc_16, kc_17, kc_18, kc_19, kc_20, kc_21, kc_22, kc_24, kc_28, kc_30, kc_32, kc_37, kc_40, kc_41, kc_42, kc_43, kc_45, kc_48, kc_56, kc_57, kc_59, kc_60, kc_61, kc_64, kc_73, kc_78, kc_91, kc_95, kc_96, kc_97, kc_98, kc_99, kc_100, kc_112, kc_122, kc_125, kc_126, kc_150, kc_162, kc_163, kc_168, kc_186, kc_190, kc_200, kc_250, kc_255, kc_355, kc_356, kc_404, kc_405, kc_429, kc_573, kc_999, kc_1000, kc_1002, kc_1100, kc_1891, kc_2200, kc_4719, kc_4869, kc_4881, kc_5148, kc_9999, kn_9999, kc_10000, kc_12345, kc_19741, kc_25433, kc_65536, kc_320403, kc_628412, kc_629093, kc_660401, kc_679843, kc_918640, kc_979410, kc_1178088, kc_6232410, kc_24644941, kc_36238189, kc_38270444, kc_392531318, kc_425693491, kc_1103515245, kc_1342154595, kc_2147483648, kc_42328242873, kc_891704255789, kc_1722105685577, kc_1858726030364, ct_0, ct_1, ct_2, ct_3, ct_4, ct_5, cf_0, cf_1, cf_2, cf_3, cf_4, cf_5, w_ty6, w_ty7, m_sv, m_z0, m_hd, m_g0, m_gs, m_s0, m_ss, m_ap, m_an, forall_const, true_and, and_true, ne_eq, not_true_eq_false, not_false_eq_true, false_implies, true_implies, implies_true, eq_self, reduceCtorEq, Nat.reduceDiv, Nat.reduceMod, Int.reduceToNat, or_true, true_or, or_false, false_or, or_self, m_it, m_if, m_c1, m_01, m_02, m_03, m_04, m_10, m_12, m_13, m_14, m_20, m_21, m_23, m_24, m_30, m_31, m_32, m_34, m_40, m_41, m_42, m_43]
  obtain ⟨v, e1_w, e2_w, e3_w, e4_w, e5_w⟩ := c201 h 0 20 hp (by decide) (by decide) (by decide)
  obtain ⟨q, ⟨p1_w, p2_w, p3_w, p4_w, p5_w, p6_w, p7_w⟩, d⟩ := hp
  have ba_w : 0 ≤ h 182 7 ∧ h 182 7 < 1002 := ⟨p2_w, by omega⟩
  have no : ¬tkN h → ∃ v, [(0 : Int)] = [v] ∧ (v = 0 ∨ v = 1) ∧ (¬v = 0 ↔ tkN h) := fun k => ⟨0, rfl, Or.inl rfl, fun k2 => absurd rfl k2, fun k2 => absurd k2 k⟩
  refine ⟨fun k1_w => ⟨ba_w, fun k2 => ⟨[v], h, e1_w, fun k3 => ⟨rfl, 1, rfl, Or.inr rfl, fun _ => ⟨k1_w, k2, fun k a0_w a1_w => ?_⟩, fun _ => by decide⟩, fun k3 => ⟨rfl, no (fun z => ?_)⟩⟩, fun k2 => no (fun z => k2 z.2.1)⟩, fun k1_w => no (fun z => k1_w z.1)⟩
  · have k3 : v < 0 := k3
    have h5 := e5_w (by omega) k a0_w a1_w
    rwa [Int.zero_add] at h5
  · have k3 : 0 ≤ v := k3
    have h4 := e4_w k3
    rw [Int.zero_add] at h4
    exact z.2.2 v k3 h4.1 h4.2
def B204 (h : XH) (a m : Int) (r : List Int) (h' : XH) : Prop := h' = h ∧ ∃ v, r = [v] ∧ -1 ≤ v ∧ (0 ≤ v → v < m ∧ h 190 (a + v).toNat = h 186 (h 182 7).toNat) ∧ (v = -1 → ∀ k, 0 ≤ k → k < m → h 190 (a + k).toNat ≠ h 186 (h 182 7).toNat)
theorem g_204 (hK_w : 4294967300 ≤ K) : G204 P N g (evF xs L ck K cW g_M (n + 1)) := fun h a m hp a0_w m0_w am => by
  suffices hs : ∃ r h', evF xs L ck K cW g_M (n + 1) 204 [182, a, m] ((a_g3, g), h) = some (1, r, ((a_g3, g), h')) ∧ B204 h a m r h' by
    obtain ⟨r, h', e1_w, rfl, v, rfl, e2_w⟩ := hs
    exact ⟨v, e1_w, e2_w⟩
  refine tr_of gm_204 ?_
  show wS _ _ K bb_204 [182, a, m, 0, 0] h _
  generalize evF xs L ck K cW g_M n = F
  unfold bb_204
  simp only [wf_4, wf_40, wf_5, wf_50, wf_6, wl_1, wt_1, wu_1, wa_1, wl_4, wt_4, wu_4, wa_4, wl_5, wt_5, wu_5, wa_5, wl_6, wt_6, wu_6, wa_6, wl_9, wt_9, wu_9, wa_9, wl_10, wt_10, wu_10, wa_10, wl_11, wt_11, wu_11, wa_11, wl_13, wt_13, wu_13, wa_13, wl_14, wt_14, wu_14, wa_14, wl_15, wt_15, wu_15, wa_15, wl_16, wt_16, wu_16, wa_16, wl_17, wt_17, wu_17, wa_17, wl_20, wt_20, wu_20, wa_20, wl_21, wt_21, wu_21, wa_21, wl_22, wt_22, wu_22, wa_22, wl_23, wt_23, wu_23, wa_23, wl_24, wt_24, wu_24, wa_24, wl_26, wt_26, wu_26, wa_26, wl_27, wt_27, wu_27, wa_27, wl_28, wt_28, wu_28, wa_28, we_1, we_3, we_10, we_14, we_15, we_16, we_17, we_18, we_20, we_21, we_22, we_24, we_25, we_26, we_27, we_28, we_30, we_31, we_32, wc_20, wc_21, wc_22, wc_24, wc_25, wc_26, wc_27, wc_3, wc_4, wc_7, wc_28, wc_32, ws_1, ws_2, ws_3, ws_4, ws_9, ws_10, ws_11, ws_14, ws_15, ws_16, ws_27, ws_17, ws_20, ws_28, kc_0, kc_1, kn_1, kc_2, kn_2, kc_3, kc_4, kc_5, kc_6, kc_7, kc_8, kc_9, kc_10, kc_12, kc_13, kc_14, kc_16, kc_17, kc_18, kc_19, kc_20, kc_21, kc_22, kc_24, kc_28, kc_30, kc_32, kc_37, kc_40, kc_41, kc_42, kc_43, kc_45, kc_48, kc_56, kc_57, kc_59, kc_60, kc_61, kc_64, kc_73, kc_78, kc_91, kc_95, kc_96, kc_97, kc_98, kc_99, kc_100, kc_112, kc_122, kc_125, kc_126, kc_150, kc_162, kc_163, kc_168, kc_186, kc_190, kc_200, kc_250, kc_255, kc_355, kc_356, kc_404, kc_405, kc_429, kc_573, kc_999, kc_1000, kc_1002, kc_1100, kc_1891, kc_2200, kc_4719, kc_4869, kc_4881, kc_5148, kc_9999, kn_9999, kc_10000, kc_12345, kc_19741, kc_25433, kc_65536, kc_320403, kc_628412, kc_629093, kc_660401, kc_679843, kc_918640, kc_979410, kc_1178088, kc_6232410, kc_24644941, kc_36238189, kc_38270444, kc_392531318, kc_425693491, kc_1103515245, kc_1342154595, kc_2147483648, kc_42328242873, kc_891704255789, kc_1722105685577, kc_1858726030364, ct_0, ct_1, ct_2, ct_3, ct_4, ct_5, cf_0, cf_1, cf_2, cf_3, cf_4, cf_5, w_ty6, w_ty7, m_sv, m_z0, m_hd, m_g0, m_gs, m_s0, m_ss, m_ap, m_an, forall_const, true_and, and_true, ne_eq, not_true_eq_false, not_false_eq_true, false_implies, true_implies, implies_true, eq_self, reduceCtorEq, Nat.reduceDiv, Nat.reduceMod, Int.reduceToNat, or_true, true_or, or_false, false_or, or_self, m_it, m_if, m_c1, m_01, m_02, m_03, m_04, m_10, m_12, m_13, m_14, m_20, m_21, m_23, m_24, m_30, m_31, m_32, m_34, m_40, m_41, m_42, m_43]
  obtain ⟨q, ⟨p1_w, p2_w, p3_w, p4_w, p5_w, p6_w, p7_w⟩, d⟩ := hp
  have ba_w : 0 ≤ h 182 7 ∧ h 182 7 < 1002 := ⟨p2_w, by omega⟩
  refine w_lp (fun en h' => ∃ v k : Int, en = [182, a, m, v, k] ∧ 0 ≤ k ∧ k ≤ m ∧ -1 ≤ v ∧ (0 ≤ v → v < k ∧ h 190 (a + v).toNat = h 186 (h 182 7).toNat) ∧ (v = -1 → ∀ i, 0 ≤ i → i < k → h 190 (a + i).toNat ≠ h 186 (h 182 7).toNat) ∧ h' = h) (fun en _ => (m - en.getD 4 0).toNat) ⟨-1, 0, rfl, by omega, by omega, by omega, fun z => absurd z (by decide), fun _ i i0 i1_w => by omega, rfl⟩ ?_
  rintro en h1 ⟨v, k, rfl, k0_w, k1_w, v0_w, v1_w, v2, rfl⟩
  refine ⟨?_, ?_⟩
  · show (m - k).toNat < K
    omega
  simp only [wf_4, wf_40, wf_5, wf_50, wf_6, wl_1, wt_1, wu_1, wa_1, wl_4, wt_4, wu_4, wa_4, wl_5, wt_5, wu_5, wa_5, wl_6, wt_6, wu_6, wa_6, wl_9, wt_9, wu_9, wa_9, wl_10, wt_10, wu_10, wa_10, wl_11, wt_11, wu_11, wa_11, wl_13, wt_13, wu_13, wa_13, wl_14, wt_14, wu_14, wa_14, wl_15, wt_15, wu_15, wa_15, wl_16, wt_16, wu_16, wa_16, wl_17, wt_17, wu_17, wa_17, wl_20, wt_20, wu_20, wa_20, wl_21, wt_21, wu_21, wa_21, wl_22, wt_22, wu_22, wa_22, wl_23, wt_23, wu_23, wa_23, wl_24, wt_24, wu_24, wa_24, wl_26, wt_26, wu_26, wa_26, wl_27, wt_27, wu_27, wa_27, wl_28, wt_28, wu_28, wa_28, we_1, we_3, we_10, we_14, we_15, we_16, we_17, we_18, we_20, we_21, we_22, we_24, we_25, we_26, we_27, we_28, we_30, we_31, we_32, wc_20, wc_21, wc_22, wc_24, wc_25, wc_26, wc_27, wc_3, wc_4, wc_7, wc_28, wc_32, ws_1, ws_2, ws_3, ws_4, ws_9, ws_10, ws_11, ws_14, ws_15, ws_16, ws_27, ws_17, ws_20, ws_28, kc_0, kc_1, kn_1, kc_2, kn_2, kc_3, kc_4, kc_5, kc_6, kc_7, kc_8, kc_9, kc_10, kc_12, kc_13, kc_14, kc_16, kc_17, kc_18, kc_19, kc_20, kc_21, kc_22, kc_24, kc_28, kc_30, kc_32, kc_37, kc_40, kc_41, kc_42, kc_43, kc_45, kc_48, kc_56, kc_57, kc_59, kc_60, kc_61, kc_64, kc_73, kc_78, kc_91, kc_95, kc_96, kc_97, kc_98, kc_99, kc_100, kc_112, kc_122, kc_125, kc_126, kc_150, kc_162, kc_163, kc_168, kc_186, kc_190, kc_200, kc_250, kc_255, kc_355, kc_356, kc_404, kc_405, kc_429, kc_573, kc_999, kc_1000, kc_1002, kc_1100, kc_1891, kc_2200, kc_4719, kc_4869, kc_4881, kc_5148, kc_9999, kn_9999, kc_10000, kc_12345, kc_19741, kc_25433, kc_65536, kc_320403, kc_628412, kc_629093, kc_660401, kc_679843, kc_918640, kc_979410, kc_1178088, kc_6232410, kc_24644941, kc_36238189, kc_38270444, kc_392531318, kc_425693491, kc_1103515245, kc_1342154595, kc_2147483648, kc_42328242873, kc_891704255789, kc_1722105685577, kc_1858726030364, ct_0, ct_1, ct_2, ct_3, ct_4, ct_5, cf_0, cf_1, cf_2, cf_3, cf_4, cf_5, w_ty6, w_ty7, m_sv, m_z0, m_hd, m_g0, m_gs, m_s0, m_ss, m_ap, m_an, forall_const, true_and, and_true, ne_eq, not_true_eq_false, not_false_eq_true, false_implies, true_implies, implies_true, eq_self, reduceCtorEq, Nat.reduceDiv, Nat.reduceMod, Int.reduceToNat, or_true, true_or, or_false, false_or, or_self, m_it, m_if, m_c1, m_01, m_02, m_03, m_04, m_10, m_12, m_13, m_14, m_20, m_21, m_23, m_24, m_30, m_31, m_32, m_34, m_40, m_41, m_42, m_43]
  refine ⟨fun hk => ?_, fun hk => ⟨rfl, v, rfl, v0_w, fun z => ?_, fun z i i0 i1_w => v2 z i i0 (by omega)⟩⟩
  · rw [jadd (x := a) (y := k) (by omega) (by omega), jinc (by omega) (by omega)]
    refine ⟨⟨by omega, by omega⟩, ba_w, fun z => ⟨⟨k, k + 1, rfl, by omega, by omega, by omega, fun _ => ⟨by omega, z⟩, fun z2 => by omega⟩, ?_⟩, fun z => ⟨⟨v, k + 1, rfl, by omega, by omega, v0_w, fun z2 => ⟨by have := (v1_w z2).1; omega, (v1_w z2).2⟩, fun z2 i i0 i1_w => ?_⟩, ?_⟩⟩
    · show (m - (k + 1)).toNat < (m - k).toNat
      omega
    · by_cases e : i = k
      · subst e
        exact z
      · exact v2 z2 i i0 (by omega)
    · show (m - (k + 1)).toNat < (m - k).toNat
      omega
  · have := v1_w z
    exact ⟨by omega, this.2⟩
def B205 (N : Nat) (h : XH) (a m : Int) (r : List Int) (h' : XH) : Prop := ∃ v, r = [v] ∧ PA N h h' ∧ InI v ∧ (h' 182 8 = 0 → 0 ≤ v ∧ v < m ∧ h' = atp h ∧ tkN h) ∧ (h' 182 8 ≠ 0 → v = 0 ∧ h' 182 7 = h 182 7)
theorem g_205 (c203 : G203 P N g (evF xs L ck K cW g_M n)) (c204 : G204 P N g (evF xs L ck K cW g_M n)) (c191 : G191 P N g (evF xs L ck K cW g_M n)) : G205 P N g (evF xs L ck K cW g_M (n + 1)) := fun h a m hp a0_w m0_w am => by
  suffices hs : ∃ r h', evF xs L ck K cW g_M (n + 1) 205 [182, a, m] ((a_g3, g), h) = some (1, r, ((a_g3, g), h')) ∧ B205 N h a m r h' by
    obtain ⟨r, h', e1_w, v, rfl, e2_w⟩ := hs
    exact ⟨v, h', e1_w, e2_w⟩
  refine tr_of gm_205 ?_
  show wS _ _ K bb_205 [182, a, m, 0] h _
  generalize evF xs L ck K cW g_M n = F at c203 c204 c191 ⊢
  unfold bb_205
  simp only [wf_4, wf_40, wf_5, wf_50, wf_6, wl_1, wt_1, wu_1, wa_1, wl_4, wt_4, wu_4, wa_4, wl_5, wt_5, wu_5, wa_5, wl_6, wt_6, wu_6, wa_6, wl_9, wt_9, wu_9, wa_9, wl_10, wt_10, wu_10, wa_10, wl_11, wt_11, wu_11, wa_11, wl_13, wt_13, wu_13, wa_13, wl_14, wt_14, wu_14, wa_14, wl_15, wt_15, wu_15, wa_15, wl_16, wt_16, wu_16, wa_16, wl_17, wt_17, wu_17, wa_17, wl_20, wt_20, wu_20, wa_20, wl_21, wt_21, wu_21, wa_21, wl_22, wt_22, wu_22, wa_22, wl_23, wt_23, wu_23, wa_23, wl_24, wt_24, wu_24, wa_24, wl_26, wt_26, wu_26, wa_26, wl_27, wt_27, wu_27, wa_27, wl_28, wt_28, wu_28, wa_28, we_1, we_3, we_10, we_14, we_15, we_16, we_17, we_18, we_20, we_21, we_22, we_24, we_25, we_26, we_27, we_28, we_30, we_31, we_32, wc_20, wc_21, wc_22, wc_24, wc_25, wc_26, wc_27, wc_3, wc_4, wc_7, wc_28, wc_32, ws_1, ws_2, ws_3, ws_4, ws_9, ws_10, ws_11, ws_14, ws_15, ws_16, ws_27, ws_17, ws_20, ws_28, kc_0, kc_1, kn_1, kc_2, kn_2, kc_3, kc_4, kc_5, kc_6, kc_7, kc_8, kc_9, kc_10, kc_12, kc_13, kc_14, kc_16, kc_17, kc_18, kc_19, kc_20, kc_21, kc_22, kc_24, kc_28, kc_30, kc_32, kc_37, kc_40, kc_41, kc_42, kc_43, kc_45, kc_48, kc_56, kc_57, kc_59, kc_60, kc_61, kc_64, kc_73, kc_78, kc_91, kc_95, kc_96, kc_97, kc_98, kc_99, kc_100, kc_112, kc_122, kc_125, kc_126, kc_150, kc_162, kc_163, kc_168, kc_186, kc_190, kc_200, kc_250, kc_255, kc_355, kc_356, kc_404, kc_405, kc_429, kc_573, kc_999, kc_1000, kc_1002, kc_1100, kc_1891, kc_2200, kc_4719, kc_4869, kc_4881, kc_5148, kc_9999, kn_9999, kc_10000, kc_12345, kc_19741, kc_25433, kc_65536, kc_320403, kc_628412, kc_629093, kc_660401, kc_679843, kc_918640, kc_979410, kc_1178088, kc_6232410, kc_24644941, kc_36238189, kc_38270444, kc_392531318, kc_425693491, kc_1103515245, kc_1342154595, kc_2147483648, kc_42328242873, kc_891704255789, kc_1722105685577, kc_1858726030364, ct_0, ct_1, ct_2, ct_3, ct_4, ct_5, cf_0, cf_1, cf_2, cf_3, cf_4, cf_5, w_ty6, w_ty7, m_sv, m_z0, m_hd, m_g0, m_gs, m_s0, m_ss, m_ap, m_an, forall_const, true_and, and_true, ne_eq, not_true_eq_false, not_false_eq_true, false_implies, true_implies, implies_true, eq_self, reduceCtorEq, Nat.reduceDiv, Nat.reduceMod, Int.reduceToNat, or_true, true_or, or_false, false_or, or_self, m_it, m_if, m_c1, m_01, m_02, m_03, m_04, m_10, m_12, m_13, m_14, m_20, m_21, m_23, m_24, m_30, m_31, m_32, m_34, m_40, m_41, m_42, m_43]
  have rf := PA.rf hp
  have p1_w := hp.2.1.1
  obtain ⟨w, e1_w, e2_w, e3_w⟩ := c203 h hp
  obtain ⟨v, d1_w, d2_w, d3_w, d4_w⟩ := c204 h a m hp a0_w m0_w am
  obtain ⟨h1, f1_w, f2_w, f3_w, f4_w, -⟩ := c191 h 1 hp (by decide) (by decide)
  obtain ⟨h2, x1_w, x2_w, x3, x4_w, -⟩ := c191 h 2 hp (by decide) (by decide)
  have f5_w := f2_w.2.1
  have x5_w := x2_w.2.1
  have stop1 : ∀ x, Fin7 (B205 N h a m) h1 x := fun x => fin7_f (by omega) (by rw [f3_w]; exact jat0 hp) ⟨0, rfl, f2_w, in_0, fun z => absurd z f4_w, fun _ => ⟨rfl, f3_w⟩⟩
  have stop2 : ∀ x, Fin7 (B205 N h a m) h2 x := fun x => fin7_f (by omega) (by rw [x3]; exact jat0 hp) ⟨0, rfl, x2_w, in_0, fun z => absurd z x4_w, fun _ => ⟨rfl, x3⟩⟩
  have idle_w : h 182 8 ≠ 0 → ∀ x, Fin7 (B205 N h a m) h x := fun z x => fin7_f (by omega) (jat0 hp) ⟨0, rfl, rf, in_0, fun z2 => absurd z2 z, fun _ => ⟨rfl, rfl⟩⟩
  refine ⟨fun k1_w => ⟨[w], h, e1_w, fun k2 => ⟨fun z => by omega, fun _ => ⟨[v], h, d1_w, fun _ => ⟨fun _ => ⟨[], h2, x1_w, stop2 _⟩, fun k3 => ?_⟩, fun z => absurd k1_w z⟩⟩, fun k2 => ⟨[], h1, f1_w, ⟨fun _ => ⟨fun z => absurd z f4_w, fun _ => stop1 _⟩, fun z => by omega⟩⟩⟩, fun k1_w => ⟨fun _ => ⟨fun z => absurd z k1_w, fun _ => idle_w k1_w _⟩, fun z => by omega⟩⟩
  have k3 : 0 ≤ v := k3
  obtain ⟨g1, g2⟩ := d3_w k3
  exact fin7_o (B := B205 N h a m) k1_w (jat hp) ⟨v, rfl, PA.next hp (by rw [(e3_w.mp k2).2.1]; decide), ⟨by omega, by omega⟩, fun _ => ⟨k3, g1, rfl, e3_w.mp k2⟩, fun z => absurd (atp_8.trans k1_w) z⟩
end PAR4
end
section
/-! ===== the reference's parser: what is_w emitted ===== -/
/-- what an E may_w write_w: codes_w behind_w those that are there_w -/
def PX (N : Nat) (h h' : XH) : Prop := (∀ o k : Nat, (o = 182 → k ≠ 7 ∧ k ≠ 8 ∧ k ≠ 12) → (o = 189 → (k : Int) < 1100 + h 182 12) → h' o k = h o k) ∧ 0 ≤ h' 182 8 ∧ InI (h' 182 8) ∧ (h 182 8 ≠ 0 → h' 182 8 = h 182 8) ∧ h 182 7 ≤ h' 182 7 ∧ h' 182 7 ≤ (N : Int) ∧ h 182 12 ≤ h' 182 12 ∧ h' 182 12 - h 182 12 ≤ h' 182 7 - h 182 7
/-- what was emitted puts one number_w on_w the pile, and needs so many_w places_w -/
def EX (b : Nat) (h h' : XH) : Prop := h' 182 8 = 0 → ∃ l : List Int, Seg (h' 189) (1100 + (h 182 12).toNat) l ∧ h' 182 12 = h 182 12 + l.length ∧ ∀ t, t + b ≤ 63 → htO t l = some (t + 1)
section PAR5
variable {P : Int × Int} {N : Nat} {g : Nat × Nat} {xs : Nat → Int} {L K n : Nat} {ck : Nat → List Nat} {cW : Nat → Nat → Int} {h h' h2 : XH}
theorem CodeOK.up {f f' : Nat → Int} {a : Nat} (hf : ∀ k, k < 1100 → f' k = f k) (hc_w : CodeOK f a) : CodeOK f' a := by
  obtain ⟨l, s1_w, s2_w, s3_w, s4_w⟩ := hc_w
  exact ⟨l, fun k hk => (hf _ (by omega)).trans (s1_w k hk), (hf _ (by omega)).trans s2_w, s3_w, s4_w⟩
theorem htO_app : ∀ {l m : List Int} {t u : Nat}, htO t l = some u → htO t (l ++ m) = htO u m
  | [], m, t, u, h => by cases h; rfl
  | x :: l, m, t, u, h => by
    rw [List.cons_append]
    unfold htO at h
    conv => lhs; unfold htO
    split at h
    · rename_i c1_w
      obtain ⟨c2, h⟩ := j_ifx h
      rw [if_pos c1_w, if_pos c2]
      exact htO_app h
    · rename_i c1_w
      rw [if_neg c1_w]
      split at h
      · rename_i c1_w
        obtain ⟨c2, h⟩ := j_ifx h
        rw [if_pos c1_w, if_pos c2]
        exact htO_app h
      · rename_i c1_w
        rw [if_neg c1_w]
        split at h
        · rename_i c1_w
          obtain ⟨c2, h⟩ := j_ifx h
          rw [if_pos c1_w, if_pos c2]
          exact htO_app h
        · rename_i c1_w
          rw [if_neg c1_w]
          split at h
          · rename_i c1_w
            obtain ⟨c2, h⟩ := j_ifx h
            rw [if_pos c1_w, if_pos c2]
            exact htO_app h
          · cases h
theorem Seg.app {f : Nat → Int} {a : Nat} {l m : List Int} (hl : Seg f a l) (hm_w : Seg f (a + l.length) m) : Seg f a (l ++ m) := fun k hk => by
  rw [List.getD_eq_getElem?_getD]
  by_cases e : k < l.length
  · rw [List.getElem?_append_left e, ← List.getD_eq_getElem?_getD]
    exact hl k e
  · rw [List.getElem?_append_right (by omega), ← List.getD_eq_getElem?_getD]
    have := hm_w (k - l.length) (by rw [List.length_append] at hk; omega)
    rw [← this]
    congr 1
    omega
/-- a code is_w emitted -/
def emt (h : XH) (x : Int) : XH := j_up (j_up h 189 (1100 + (h 182 12).toNat) x) 182 12 (h 182 12 + 1)
theorem emt_QK (hQ : QK P (r_T 0) (RJ P) h) {x : Int} (hx : InI x) (hc_w : 0 ≤ h 182 12 ∧ h 182 12 ≤ 1001) : QK P (r_T 0) (RJ P) (emt h x) := by
  have hH : HT g_fk a_g3 (j_up h 189 (1100 + (h 182 12).toNat) x) := ht_up hQ.1 (by decide) hx
  have hr : (r_A 189).2.2.all (fun r => i_sub iT r.2.2) = true := by decide +kernel
  have q1_w : QK P (r_T 0) (RJ P) (j_up h 189 (1100 + (h 182 12).toNat) x) := by
    refine ⟨hH, fun k => ?_, fun q' hq' => ?_, ?_⟩
    · rw [up_ne (fun z => absurd z.1 (by decide))]
      exact hQ.2.1 k
    · by_cases e : q' = 189
      · subst e
        intro r hr' a b k1_w k2 k3
        by_cases e2_w : (qA (r_T 0) 189).2.1 * b + a = 1100 + (h 182 12).toNat
        · rw [e2_w, up_eq]
          exact IV.sub (List.all_eq_true.mp hr r hr') (IV.top hx)
        · rw [up_ne (fun z => e2_w z.2)]
          exact hQ.2.2.1 189 hq' r hr' a b k1_w k2 k3
      · have e2_w : j_up h 189 (1100 + (h 182 12).toNat) x q' = h q' := funext fun i => up_ne (fun z => e z.1)
        rw [e2_w]
        exact hQ.2.2.1 q' hq'
    · have e1_w : j_up h 189 (1100 + (h 182 12).toNat) x 188 = h 188 := funext fun i => up_ne (fun z => absurd z.1 (by decide))
      have e2_w : j_up h 189 (1100 + (h 182 12).toNat) x 191 = h 191 := funext fun i => up_ne (fun z => absurd z.1 (by decide))
      obtain ⟨j1, j2_w, j3_w⟩ := hQ.2.2.2
      refine ⟨by rw [e1_w]; exact j1, fun z => ?_, by rw [e2_w]; exact j3_w⟩
      rw [e1_w] at z ⊢
      exact (j2_w z).up (fun k hk => up_ne (fun z => by have := z.2; omega))
  have q2_w := (fd_QK q1_w rj_js (k := 12) (v := h 182 12 + 1) (Or.inl rfl) (IV.top ⟨by omega, by omega⟩)).1
  exact q2_w
theorem emt_8 {x : Int} : emt h x 182 8 = h 182 8 := by
  unfold emt
  rw [up_ne (fun z => absurd z.2 (by decide)), up_ne (fun z => absurd z.1 (by decide))]
theorem emt_7 {x : Int} : emt h x 182 7 = h 182 7 := by
  unfold emt
  rw [up_ne (fun z => absurd z.2 (by decide)), up_ne (fun z => absurd z.1 (by decide))]
theorem emt_12 {x : Int} : emt h x 182 12 = h 182 12 + 1 := up_eq
theorem emt_ob {x : Int} {o k : Nat} (h1 : o = 182 → k ≠ 12) (h2 : o = 189 → k ≠ 1100 + (h 182 12).toNat) : emt h x o k = h o k := by
  unfold emt
  rw [up_ne (fun z => h1 z.1 z.2), up_ne (fun z => h2 z.1 z.2)]
theorem PX.tr (a : PX N h h') (b : PX N h' h2) (hc_w : 0 ≤ h 182 12) : PX N h h2 := by
  obtain ⟨a1_w, a2, a3, a4, a5, a6, a7, a8⟩ := a
  obtain ⟨b1, b2, b3, b4, b5, b6, b7, b8⟩ := b
  exact ⟨fun o k e e2_w => (b1 o k e (fun z => by have := e2_w z; omega)).trans (a1_w o k e e2_w), b2, b3, fun e => by rw [b4 (by rw [a4 e]; exact e), a4 e], by omega, b6, by omega, by omega⟩
theorem PA.px (hp : PK P N h) (a : PA N h h') : PX N h h' := by
  obtain ⟨a1_w, a2, a3, a4, a5, a6⟩ := a
  have e := a1_w 182 12 (fun _ => by decide)
  exact ⟨fun o k e _ => a1_w o k (fun z => ⟨(e z).1, (e z).2.1⟩), a2, a3, a4, a5, a6, by omega, by omega⟩
theorem px_e (hp : PK P N h) (a : PX N h h') (hQ : QK P (r_T 0) (RJ P) h') (hc_w : h 182 12 ≤ h 182 7) : PK P N h' := by
  obtain ⟨a1_w, a2, a3, a4, a5, a6, a7, a8⟩ := a
  obtain ⟨q, ⟨p1_w, p2_w, p3_w, p4_w, p5_w, p6_w, p7_w, p8_w⟩, d⟩ := hp
  have e : ∀ q : Nat, q ≠ 182 → q ≠ 189 → h' q = h q := fun q h1 h2 => funext fun k => a1_w q k (fun z => absurd z h1) (fun z => absurd z h2)
  refine ⟨hQ, ⟨a2, by omega, a6, p4_w, ?_, by omega, by omega, fun i hi_w hs => ?_⟩, ?_⟩
  · rw [e 184 (by decide) (by decide)]
    exact p5_w
  · rw [e 184 (by decide) (by decide)] at hs
    rw [e 186 (by decide) (by decide)]
    exact p8_w i hi_w hs
  · unfold DG
    rw [e 188 (by decide) (by decide)]
    exact d
/-- two that are joined by what is_w emitted behind_w them -/
theorem EX.join {h3 : XH} {b1 b2 b : Nat} {x : Int} (hc_w : 0 ≤ h 182 12) (a1_w : EX b1 h h') (a2 : EX b2 h' h2) (px : PX N h' h2) (ph_w : h' 182 8 ≠ 0 → h2 182 8 ≠ 0) (h12 : h 182 12 ≤ h' 182 12) (h3e : h3 = emt h2 x) (hx : 4 ≤ x % 16 ∧ 0 ≤ x ∧ x % 16 ≠ 1 ∧ x % 16 ≠ 2 ∧ x % 16 ≠ 3) (hb1 : b1 ≤ b) (hb2 : b2 + 1 ≤ b) (hb3 : 1 ≤ b) : EX b h h3 := by
  intro h0
  subst h3e
  rw [emt_8] at h0
  obtain ⟨l2, s2_w, n2_w, t2_w⟩ := a2 h0
  obtain ⟨l1, s1_w, n1_w, t1_w⟩ := a1_w (Decidable.byContradiction fun z => ph_w z h0)
  have hn : (h 182 12).toNat + l1.length = (h' 182 12).toNat := by omega
  have hn2 : (h' 182 12).toNat + l2.length = (h2 182 12).toNat := by omega
  refine ⟨l1 ++ (l2 ++ [x]), Seg.app (fun k hk => ?_) (Seg.app (fun k hk => ?_) (fun k hk => ?_)), ?_, fun t ht => ?_⟩
  · rw [emt_ob (fun z => absurd z (by decide)) (fun _ => by omega), px.1 189 _ (fun z => absurd z (by decide)) (fun _ => by omega)]
    exact s1_w k hk
  · rw [emt_ob (fun z => absurd z (by decide)) (fun _ => by omega), show 1100 + (h 182 12).toNat + l1.length + k = 1100 + (h' 182 12).toNat + k by omega]
    exact s2_w k hk
  · have hk0 : k = 0 := by simpa using hk
    subst hk0
    rw [show 1100 + (h 182 12).toNat + l1.length + l2.length + 0 = 1100 + (h2 182 12).toNat by omega]
    unfold emt
    rw [up_ne (fun z => absurd z.1 (by decide)), up_eq]
    rfl
  · rw [emt_12, List.length_append, List.length_append]
    simp only [List.length_cons, List.length_nil]
    omega
  · rw [htO_app (t1_w t (by omega)), htO_app (t2_w (t + 1) (by omega))]
    unfold htO
    rw [if_neg (fun z => hx.2.2.1 z.1), if_neg (fun z => hx.2.2.2.1 z.1), if_neg (fun z => hx.2.2.2.2 z.1), if_pos ⟨hx.1, hx.2.1⟩, if_pos (by omega)]
    rfl
def G216 (P : Int × Int) (N : Nat) (g : Nat × Nat) (F : XP) : Prop := ∀ (h : XH) (c a : Int), 0 ≤ h 182 12 → h 182 12 ≤ 1001 → 0 ≤ c → c ≤ 15 → 0 ≤ a → a ≤ 9999 → F 216 [182, c, a] ((a_g3, g), h) = some (1, [], ((a_g3, g), emt h (c + 16 * a)))
theorem g_216 : G216 P N g (evF xs L ck K cW g_M (n + 1)) := fun h c a h0 h1 c0 c1_w a0_w a1_w => by
  suffices hs : ∃ r h', evF xs L ck K cW g_M (n + 1) 216 [182, c, a] ((a_g3, g), h) = some (1, r, ((a_g3, g), h')) ∧ r = [] ∧ h' = emt h (c + 16 * a) by
    obtain ⟨r, h', e1_w, rfl, rfl⟩ := hs
    exact e1_w
  refine tr_of gm_216 (B := fun r h' => r = [] ∧ h' = emt h (c + 16 * a)) ?_
  show wS _ _ K bb_216 [182, c, a] h _
  generalize evF xs L ck K cW g_M n = F
  unfold bb_216
  simp only [wf_4, wf_40, wf_5, wf_50, wf_6, wl_1, wt_1, wu_1, wa_1, wl_4, wt_4, wu_4, wa_4, wl_5, wt_5, wu_5, wa_5, wl_6, wt_6, wu_6, wa_6, wl_9, wt_9, wu_9, wa_9, wl_10, wt_10, wu_10, wa_10, wl_11, wt_11, wu_11, wa_11, wl_13, wt_13, wu_13, wa_13, wl_14, wt_14, wu_14, wa_14, wl_15, wt_15, wu_15, wa_15, wl_16, wt_16, wu_16, wa_16, wl_17, wt_17, wu_17, wa_17, wl_20, wt_20, wu_20, wa_20, wl_21, wt_21, wu_21, wa_21, wl_22, wt_22, wu_22, wa_22, wl_23, wt_23, wu_23, wa_23, wl_24, wt_24, wu_24, wa_24, wl_26, wt_26, wu_26, wa_26, wl_27, wt_27, wu_27, wa_27, wl_28, wt_28, wu_28, wa_28, we_1, we_3, we_10, we_14, we_15, we_16, we_17, we_18, we_20, we_21, we_22, we_24, we_25, we_26, we_27, we_28, we_30, we_31, we_32, wc_20, wc_21, wc_22, wc_24, wc_25, wc_26, wc_27, wc_3, wc_4, wc_7, wc_28, wc_32, ws_1, ws_2, ws_3, ws_4, ws_9, ws_10, ws_11, ws_14, ws_15, ws_16, ws_27, ws_17, ws_20, ws_28, kc_0, kc_1, kn_1, kc_2, kn_2, kc_3, kc_4, kc_5, kc_6, kc_7, kc_8, kc_9, kc_10, kc_12, kc_13, kc_14, kc_16, kc_17, kc_18, kc_19, kc_20, kc_21, kc_22, kc_24, kc_28, kc_30, kc_32, kc_37, kc_40, kc_41, kc_42, kc_43, kc_45, kc_48, kc_56, kc_57, kc_59, kc_60, kc_61, kc_64, kc_73, kc_78, kc_91, kc_95, kc_96, kc_97, kc_98, kc_99, kc_100, kc_112, kc_122, kc_125, kc_126, kc_150, kc_162, kc_163, kc_168, kc_186, kc_190, kc_200, kc_250, kc_255, kc_355, kc_356, kc_404, kc_405, kc_429, kc_573, kc_999, kc_1000, kc_1002, kc_1100, kc_1891, kc_2200, kc_4719, kc_4869, kc_4881, kc_5148, kc_9999, kn_9999, kc_10000, kc_12345, kc_19741, kc_25433, kc_65536, kc_320403, kc_628412, kc_629093, kc_660401, kc_679843, kc_918640, kc_979410, kc_1178088, kc_6232410, kc_24644941, kc_36238189, kc_38270444, kc_392531318, kc_425693491, kc_1103515245, kc_1342154595, kc_2147483648, kc_42328242873, kc_891704255789, kc_1722105685577, kc_1858726030364, ct_0, ct_1, ct_2, ct_3, ct_4, ct_5, cf_0, cf_1, cf_2, cf_3, cf_4, cf_5, w_ty6, w_ty7, m_sv, m_z0, m_hd, m_g0, m_gs, m_s0, m_ss, m_ap, m_an, forall_const, true_and, and_true, ne_eq, not_true_eq_false, not_false_eq_true, false_implies, true_implies, implies_true, eq_self, reduceCtorEq, Nat.reduceDiv, Nat.reduceMod, Int.reduceToNat, or_true, true_or, or_false, false_or, or_self, m_it, m_if, m_c1, m_01, m_02, m_03, m_04, m_10, m_12, m_13, m_14, m_20, m_21, m_23, m_24, m_30, m_31, m_32, m_34, m_40, m_41, m_42, m_43]
  rw [jmul (x := 16) (y := a) (by omega) (by omega), jadd (x := c) (by omega) (by omega), jadd (x := 1100) (by omega) (by omega)]
  have e1_w : (1100 + h 182 12).toNat = 1100 + (h 182 12).toNat := by omega
  rw [e1_w, up_ne (fun z => absurd z.1 (by decide)), jadd (x := h 182 12) (by omega) (by omega)]
  exact ⟨⟨by omega, by omega⟩, rfl⟩
end PAR5
end
section
/-! ===== the reference's parser: an E ===== -/
def GE (f b : Nat) (d : Int) (P : Int × Int) (N : Nat) (g : Nat × Nat) (F : XP) : Prop := ∀ (h : XH), PK P N h → h 182 12 ≤ h 182 7 → ∃ h', F f [182, d] ((a_g3, g), h) = some (1, [], ((a_g3, g), h')) ∧ QK P (r_T 0) (RJ P) h' ∧ PX N h h' ∧ EX b h h'
section PAR6
variable {P : Int × Int} {N : Nat} {g : Nat × Nat} {xs : Nat → Int} {L K n : Nat} {ck : Nat → List Nat} {cW : Nat → Nat → Int} {h h1 h2 : XH} {F : XP}
theorem ex_atp {b : Nat} (a : EX b (atp h) h2) : EX b h h2 := fun h0 => by
  have e : atp h 182 12 = h 182 12 := up_ne (fun z => absurd z.2 (by decide))
  have k := a h0
  rw [e] at k
  exact k
theorem EX.mono {b c : Nat} (a : EX b h h2) (hb_w : b ≤ c) : EX c h h2 := fun h0 => by
  obtain ⟨l, s1_w, s2_w, s3_w⟩ := a h0
  exact ⟨l, s1_w, s2_w, fun t ht => s3_w t (by omega)⟩
theorem stepE (hp : PK P N h1) (hc_w : h1 182 12 ≤ h1 182 7) (ht : h1 184 (h1 182 7).toNat ≠ 0) (p2_w : PX N (atp h1) h2) (q : QK P (r_T 0) (RJ P) h2) {x : Int} (hx : InI x) : QK P (r_T 0) (RJ P) (emt h2 x) ∧ PX N h1 (emt h2 x) ∧ h1 182 7 < emt h2 x 182 7 := by
  have pn := PA.next hp ht
  have pxa := PA.px hp pn
  obtain ⟨_, ⟨t1_w, t2_w, t3_w, t4_w, t5_w, t6, t7, t8⟩, _⟩ := hp
  have e12_w : atp h1 182 12 = h1 182 12 := up_ne (fun z => absurd z.2 (by decide))
  have e7_w : atp h1 182 7 = h1 182 7 + 1 := up_eq
  have e8 : atp h1 182 8 = h1 182 8 := atp_8
  obtain ⟨a1_w, a2, a3, a4, a5, a6, a7, a8⟩ := p2_w
  rw [e12_w] at a7 a8
  rw [e7_w] at a5 a8
  rw [e8] at a4
  refine ⟨emt_QK q hx ⟨by omega, by omega⟩, ⟨fun o k k1_w k2 => ?_, ?_, ?_, fun z => ?_, ?_, ?_, ?_, ?_⟩, ?_⟩
  · rw [emt_ob (fun z => (k1_w z).2.2) (fun z => by have := k2 z; omega), a1_w o k k1_w (fun z => by rw [e12_w]; exact k2 z)]
    exact up_ne (fun z => (k1_w z.1).1 z.2)
  · rw [emt_8]
    exact a2
  · rw [emt_8]
    exact a3
  · rw [emt_8]
    exact a4 z
  · rw [emt_7]
    omega
  · rw [emt_7]
    exact a6
  · rw [emt_12]
    omega
  · rw [emt_12, emt_7]
    omega
  · rw [emt_7]
    omega
/-- a sign, what stands behind_w it, and the code of both_w -/
theorem binE {f b b2 : Nat} {d : Int} (c216 : G216 P N g F) (ce : GE f b2 d P N g F) (hp : PK P N h) (hc_w : h 182 12 ≤ h 182 7) (q1_w : QK P (r_T 0) (RJ P) h1) (px1 : PX N h h1) (e1_w : EX b h h1) (ht : h1 184 (h1 182 7).toNat ≠ 0) (hb_w : b2 + 1 ≤ b) : ∃ h2, F f [182, d] ((a_g3, g), atp h1) = some (1, [], ((a_g3, g), h2)) ∧ ∀ x : Int, 4 ≤ x → x ≤ 10 → F 216 [182, x, 0] ((a_g3, g), h2) = some (1, [], ((a_g3, g), emt h2 x)) ∧ QK P (r_T 0) (RJ P) (emt h2 x) ∧ PX N h (emt h2 x) ∧ EX b h (emt h2 x) ∧ h1 182 7 < emt h2 x 182 7 := by
  have hp1 := px_e hp px1 q1_w hc_w
  have c0 : 0 ≤ h 182 12 := hp.2.1.2.2.2.2.2.1
  have b7 := px1.2.2.2.2.2.2.1
  have b8 := px1.2.2.2.2.2.2.2
  have hc1 : h1 182 12 ≤ h1 182 7 := by omega
  have pn := PA.next hp1 ht
  have e12_w : atp h1 182 12 = h1 182 12 := up_ne (fun z => absurd z.2 (by decide))
  have e7_w : atp h1 182 7 = h1 182 7 + 1 := up_eq
  obtain ⟨h2, f1_w, q2_w, p2_w, x2_w⟩ := ce (atp h1) (hp1.pa pn) (by rw [e12_w, e7_w]; omega)
  have pxa := (PA.px hp1 pn).tr p2_w (by omega)
  have d7_w := p2_w.2.2.2.2.2.2.1
  have d8_w := p2_w.2.2.2.2.2.2.2
  have d6_w := p2_w.2.2.2.2.2.1
  have n1_w := hp.2.1.2.2.2.1
  rw [e12_w] at d7_w d8_w
  rw [e7_w] at d8_w
  refine ⟨h2, f1_w, fun x x0_w x1_w => ?_⟩
  obtain ⟨s1_w, s2_w, s3_w⟩ := stepE hp1 hc1 ht p2_w q2_w (x := x) ⟨by omega, by omega⟩
  have k := c216 h2 x 0 (by omega) (by omega) (by omega) (by omega) (by decide) (by decide)
  rw [Int.mul_zero, Int.add_zero] at k
  exact ⟨k, s1_w, px1.tr s2_w c0, EX.join (h3 := emt h2 x) c0 e1_w (ex_atp x2_w) pxa (fun z => by rw [pxa.2.2.2.1 z]; exact z) b7 rfl ⟨by omega, by omega, by omega, by omega, by omega⟩ (by omega) hb_w (by omega), s3_w⟩
theorem g_220 {b : Nat} {a : Int} (hK_w : 1001 ≤ K) (c195 : G195 P N g (evF xs L ck K cW g_M n)) (c216 : G216 P N g (evF xs L ck K cW g_M n)) (ce : GE 221 b a P N g (evF xs L ck K cW g_M n)) : GE 220 (b + 1) a P N g (evF xs L ck K cW g_M (n + 1)) := fun h hp hc_w => by
  suffices hs : ∃ r h', evF xs L ck K cW g_M (n + 1) 220 [182, a] ((a_g3, g), h) = some (1, r, ((a_g3, g), h')) ∧ r = [] ∧ QK P (r_T 0) (RJ P) h' ∧ PX N h h' ∧ EX (b + 1) h h' by
    obtain ⟨r, h', e1_w, rfl, e2_w⟩ := hs
    exact ⟨h', e1_w, e2_w⟩
  refine tr_of gm_220 (B := fun r h' => r = [] ∧ QK P (r_T 0) (RJ P) h' ∧ PX N h h' ∧ EX (b + 1) h h') ?_
  show wS _ _ K bb_220 [182, a] h _
  generalize evF xs L ck K cW g_M n = F at c195 c216 ce ⊢
  unfold bb_220
  simp only [wf_4, wf_40, wf_5, wf_50, wf_6, wl_1, wt_1, wu_1, wa_1, wl_4, wt_4, wu_4, wa_4, wl_5, wt_5, wu_5, wa_5, wl_6, wt_6, wu_6, wa_6, wl_9, wt_9, wu_9, wa_9, wl_10, wt_10, wu_10, wa_10, wl_11, wt_11, wu_11, wa_11, wl_13, wt_13, wu_13, wa_13, wl_14, wt_14, wu_14, wa_14, wl_15, wt_15, wu_15, wa_15, wl_16, wt_16, wu_16, wa_16, wl_17, wt_17, wu_17, wa_17, wl_20, wt_20, wu_20, wa_20, wl_21, wt_21, wu_21, wa_21, wl_22, wt_22, wu_22, wa_22, wl_23, wt_23, wu_23, wa_23, wl_24, wt_24, wu_24, wa_24, wl_26, wt_26, wu_26, wa_26, wl_27, wt_27, wu_27, wa_27, wl_28, wt_28, wu_28, wa_28, we_1, we_3, we_10, we_14, we_15, we_16, we_17, we_18, we_20, we_21, we_22, we_24, we_25, we_26, we_27, we_28, we_30, we_31, we_32, wc_20, wc_21, wc_22, wc_24, wc_25, wc_26, wc_27, wc_3, wc_4, wc_7, wc_28, wc_32, ws_1, ws_2, ws_3, ws_4, ws_9, ws_10, ws_11, ws_14, ws_15, ws_16, ws_27, ws_17, ws_20, ws_28, kc_0, kc_1, kn_1, kc_2, kn_2, kc_3, kc_4, kc_5, kc_6, kc_7, kc_8, kc_9, kc_10, kc_12, kc_13, kc_14, kc_16, kc_17, kc_18, kc_19, kc_20, kc_21, kc_22, kc_24, kc_28, kc_30, kc_32, kc_37, kc_40, kc_41, kc_42, kc_43, kc_45, kc_48, kc_56, kc_57, kc_59, kc_60, kc_61, kc_64, kc_73, kc_78, kc_91, kc_95, kc_96, kc_97, kc_98, kc_99, kc_100, kc_112, kc_122, kc_125, kc_126, kc_150, kc_162, kc_163, kc_168, kc_186, kc_190, kc_200, kc_250, kc_255, kc_355, kc_356, kc_404, kc_405, kc_429, kc_573, kc_999, kc_1000, kc_1002, kc_1100, kc_1891, kc_2200, kc_4719, kc_4869, kc_4881, kc_5148, kc_9999, kn_9999, kc_10000, kc_12345, kc_19741, kc_25433, kc_65536, kc_320403, kc_628412, kc_629093, kc_660401, kc_679843, kc_918640, kc_979410, kc_1178088, kc_6232410, kc_24644941, kc_36238189, kc_38270444, kc_392531318, kc_425693491, kc_1103515245, kc_1342154595, kc_2147483648, kc_42328242873, kc_891704255789, kc_1722105685577, kc_1858726030364, ct_0, ct_1, ct_2, ct_3, ct_4, ct_5, cf_0, cf_1, cf_2, cf_3, cf_4, cf_5, w_ty6, w_ty7, m_sv, m_z0, m_hd, m_g0, m_gs, m_s0, m_ss, m_ap, m_an, forall_const, true_and, and_true, ne_eq, not_true_eq_false, not_false_eq_true, false_implies, true_implies, implies_true, eq_self, reduceCtorEq, Nat.reduceDiv, Nat.reduceMod, Int.reduceToNat, or_true, true_or, or_false, false_or, or_self, m_it, m_if, m_c1, m_01, m_02, m_03, m_04, m_10, m_12, m_13, m_14, m_20, m_21, m_23, m_24, m_30, m_31, m_32, m_34, m_40, m_41, m_42, m_43]
  obtain ⟨h1, f1_w, q1_w, p1_w, x1_w⟩ := ce h hp hc_w
  refine ⟨[], h1, f1_w, ?_⟩
  refine w_lp (fun en h' => en = [182, a] ∧ QK P (r_T 0) (RJ P) h' ∧ PX N h h' ∧ EX (b + 1) h h') (fun _ h' => ((N : Int) - h' 182 7).toNat) ⟨rfl, q1_w, p1_w, x1_w.mono (by omega)⟩ ?_
  rintro en h2 ⟨rfl, q2_w, p2_w, x2_w⟩
  have n1_w := hp.2.1.2.2.2.1
  have n2_w := hp.2.1.2.1
  have n3_w := p2_w.2.2.2.2.1
  refine ⟨?_, ?_⟩
  · show ((N : Int) - h2 182 7).toNat < K
    omega
  simp only [wf_4, wf_40, wf_5, wf_50, wf_6, wl_1, wt_1, wu_1, wa_1, wl_4, wt_4, wu_4, wa_4, wl_5, wt_5, wu_5, wa_5, wl_6, wt_6, wu_6, wa_6, wl_9, wt_9, wu_9, wa_9, wl_10, wt_10, wu_10, wa_10, wl_11, wt_11, wu_11, wa_11, wl_13, wt_13, wu_13, wa_13, wl_14, wt_14, wu_14, wa_14, wl_15, wt_15, wu_15, wa_15, wl_16, wt_16, wu_16, wa_16, wl_17, wt_17, wu_17, wa_17, wl_20, wt_20, wu_20, wa_20, wl_21, wt_21, wu_21, wa_21, wl_22, wt_22, wu_22, wa_22, wl_23, wt_23, wu_23, wa_23, wl_24, wt_24, wu_24, wa_24, wl_26, wt_26, wu_26, wa_26, wl_27, wt_27, wu_27, wa_27, wl_28, wt_28, wu_28, wa_28, we_1, we_3, we_10, we_14, we_15, we_16, we_17, we_18, we_20, we_21, we_22, we_24, we_25, we_26, we_27, we_28, we_30, we_31, we_32, wc_20, wc_21, wc_22, wc_24, wc_25, wc_26, wc_27, wc_3, wc_4, wc_7, wc_28, wc_32, ws_1, ws_2, ws_3, ws_4, ws_9, ws_10, ws_11, ws_14, ws_15, ws_16, ws_27, ws_17, ws_20, ws_28, kc_0, kc_1, kn_1, kc_2, kn_2, kc_3, kc_4, kc_5, kc_6, kc_7, kc_8, kc_9, kc_10, kc_12, kc_13, kc_14, kc_16, kc_17, kc_18, kc_19, kc_20, kc_21, kc_22, kc_24, kc_28, kc_30, kc_32, kc_37, kc_40, kc_41, kc_42, kc_43, kc_45, kc_48, kc_56, kc_57, kc_59, kc_60, kc_61, kc_64, kc_73, kc_78, kc_91, kc_95, kc_96, kc_97, kc_98, kc_99, kc_100, kc_112, kc_122, kc_125, kc_126, kc_150, kc_162, kc_163, kc_168, kc_186, kc_190, kc_200, kc_250, kc_255, kc_355, kc_356, kc_404, kc_405, kc_429, kc_573, kc_999, kc_1000, kc_1002, kc_1100, kc_1891, kc_2200, kc_4719, kc_4869, kc_4881, kc_5148, kc_9999, kn_9999, kc_10000, kc_12345, kc_19741, kc_25433, kc_65536, kc_320403, kc_628412, kc_629093, kc_660401, kc_679843, kc_918640, kc_979410, kc_1178088, kc_6232410, kc_24644941, kc_36238189, kc_38270444, kc_392531318, kc_425693491, kc_1103515245, kc_1342154595, kc_2147483648, kc_42328242873, kc_891704255789, kc_1722105685577, kc_1858726030364, ct_0, ct_1, ct_2, ct_3, ct_4, ct_5, cf_0, cf_1, cf_2, cf_3, cf_4, cf_5, w_ty6, w_ty7, m_sv, m_z0, m_hd, m_g0, m_gs, m_s0, m_ss, m_ap, m_an, forall_const, true_and, and_true, ne_eq, not_true_eq_false, not_false_eq_true, false_implies, true_implies, implies_true, eq_self, reduceCtorEq, Nat.reduceDiv, Nat.reduceMod, Int.reduceToNat, or_true, true_or, or_false, false_or, or_self, m_it, m_if, m_c1, m_01, m_02, m_03, m_04, m_10, m_12, m_13, m_14, m_20, m_21, m_23, m_24, m_30, m_31, m_32, m_34, m_40, m_41, m_42, m_43]
  have hp2 := px_e hp p2_w q2_w hc_w
  obtain ⟨v, h3, d1_w, d2_w, d3_w, d4_w⟩ := c195 h2 42 hp2 ⟨by decide, by decide⟩
  refine ⟨[v], h3, d1_w, fun k => ?_, fun k => ?_⟩
  · obtain ⟨t, rfl⟩ := d3_w k
    obtain ⟨h4, z1, z2⟩ := binE c216 ce hp hc_w q2_w p2_w x2_w (by rw [t.2.1]; decide) (Nat.le_refl _)
    obtain ⟨y1, y2, y3, y4, y5⟩ := z2 6 (by decide) (by decide)
    have y6 := y3.2.2.2.2.2.1
    exact ⟨[], h4, z1, [], _, y1, ⟨y2, y3, y4⟩, by omega⟩
  · obtain ⟨t, rfl⟩ := d4_w k
    exact ⟨q2_w, p2_w, x2_w⟩
theorem g_219 {b : Nat} {a : Int} (hK_w : 1001 ≤ K) (c192 : G192 P N g (evF xs L ck K cW g_M n)) (c216 : G216 P N g (evF xs L ck K cW g_M n)) (ce : GE 220 b a P N g (evF xs L ck K cW g_M n)) : GE 219 (b + 1) a P N g (evF xs L ck K cW g_M (n + 1)) := fun h hp hc_w => by
  suffices hs : ∃ r h', evF xs L ck K cW g_M (n + 1) 219 [182, a] ((a_g3, g), h) = some (1, r, ((a_g3, g), h')) ∧ r = [] ∧ QK P (r_T 0) (RJ P) h' ∧ PX N h h' ∧ EX (b + 1) h h' by
    obtain ⟨r, h', e1_w, rfl, e2_w⟩ := hs
    exact ⟨h', e1_w, e2_w⟩
  refine tr_of gm_219 (B := fun r h' => r = [] ∧ QK P (r_T 0) (RJ P) h' ∧ PX N h h' ∧ EX (b + 1) h h') ?_
  show wS _ _ K bb_219 [182, a, 0] h _
  generalize evF xs L ck K cW g_M n = F at c192 c216 ce ⊢
  unfold bb_219
  simp only [wf_4, wf_40, wf_5, wf_50, wf_6, wl_1, wt_1, wu_1, wa_1, wl_4, wt_4, wu_4, wa_4, wl_5, wt_5, wu_5, wa_5, wl_6, wt_6, wu_6, wa_6, wl_9, wt_9, wu_9, wa_9, wl_10, wt_10, wu_10, wa_10, wl_11, wt_11, wu_11, wa_11, wl_13, wt_13, wu_13, wa_13, wl_14, wt_14, wu_14, wa_14, wl_15, wt_15, wu_15, wa_15, wl_16, wt_16, wu_16, wa_16, wl_17, wt_17, wu_17, wa_17, wl_20, wt_20, wu_20, wa_20, wl_21, wt_21, wu_21, wa_21, wl_22, wt_22, wu_22, wa_22, wl_23, wt_23, wu_23, wa_23, wl_24, wt_24, wu_24, wa_24, wl_26, wt_26, wu_26, wa_26, wl_27, wt_27, wu_27, wa_27, wl_28, wt_28, wu_28, wa_28, we_1, we_3, we_10, we_14, we_15, we_16, we_17, we_18, we_20, we_21, we_22, we_24, we_25, we_26, we_27, we_28, we_30, we_31, we_32, wc_20, wc_21, wc_22, wc_24, wc_25, wc_26, wc_27, wc_3, wc_4, wc_7, wc_28, wc_32, ws_1, ws_2, ws_3, ws_4, ws_9, ws_10, ws_11, ws_14, ws_15, ws_16, ws_27, ws_17, ws_20, ws_28, kc_0, kc_1, kn_1, kc_2, kn_2, kc_3, kc_4, kc_5, kc_6, kc_7, kc_8, kc_9, kc_10, kc_12, kc_13, kc_14, kc_16, kc_17, kc_18, kc_19, kc_20, kc_21, kc_22, kc_24, kc_28, kc_30, kc_32, kc_37, kc_40, kc_41, kc_42, kc_43, kc_45, kc_48, kc_56, kc_57, kc_59, kc_60, kc_61, kc_64, kc_73, kc_78, kc_91, kc_95, kc_96, kc_97, kc_98, kc_99, kc_100, kc_112, kc_122, kc_125, kc_126, kc_150, kc_162, kc_163, kc_168, kc_186, kc_190, kc_200, kc_250, kc_255, kc_355, kc_356, kc_404, kc_405, kc_429, kc_573, kc_999, kc_1000, kc_1002, kc_1100, kc_1891, kc_2200, kc_4719, kc_4869, kc_4881, kc_5148, kc_9999, kn_9999, kc_10000, kc_12345, kc_19741, kc_25433, kc_65536, kc_320403, kc_628412, kc_629093, kc_660401, kc_679843, kc_918640, kc_979410, kc_1178088, kc_6232410, kc_24644941, kc_36238189, kc_38270444, kc_392531318, kc_425693491, kc_1103515245, kc_1342154595, kc_2147483648, kc_42328242873, kc_891704255789, kc_1722105685577, kc_1858726030364, ct_0, ct_1, ct_2, ct_3, ct_4, ct_5, cf_0, cf_1, cf_2, cf_3, cf_4, cf_5, w_ty6, w_ty7, m_sv, m_z0, m_hd, m_g0, m_gs, m_s0, m_ss, m_ap, m_an, forall_const, true_and, and_true, ne_eq, not_true_eq_false, not_false_eq_true, false_implies, true_implies, implies_true, eq_self, reduceCtorEq, Nat.reduceDiv, Nat.reduceMod, Int.reduceToNat, or_true, true_or, or_false, false_or, or_self, m_it, m_if, m_c1, m_01, m_02, m_03, m_04, m_10, m_12, m_13, m_14, m_20, m_21, m_23, m_24, m_30, m_31, m_32, m_34, m_40, m_41, m_42, m_43]
  obtain ⟨h1, f1_w, q1_w, p1_w, x1_w⟩ := ce h hp hc_w
  refine ⟨[], h1, f1_w, ?_⟩
  refine w_lp (fun en h' => (∃ v : Int, en = [182, a, v]) ∧ QK P (r_T 0) (RJ P) h' ∧ PX N h h' ∧ EX (b + 1) h h') (fun _ h' => ((N : Int) - h' 182 7).toNat) ⟨⟨0, rfl⟩, q1_w, p1_w, x1_w.mono (by omega)⟩ ?_
  rintro en h2 ⟨⟨v0_w, rfl⟩, q2_w, p2_w, x2_w⟩
  have n1_w := hp.2.1.2.2.2.1
  have n2_w := hp.2.1.2.1
  have n3_w := p2_w.2.2.2.2.1
  refine ⟨?_, ?_⟩
  · show ((N : Int) - h2 182 7).toNat < K
    omega
  simp only [wf_4, wf_40, wf_5, wf_50, wf_6, wl_1, wt_1, wu_1, wa_1, wl_4, wt_4, wu_4, wa_4, wl_5, wt_5, wu_5, wa_5, wl_6, wt_6, wu_6, wa_6, wl_9, wt_9, wu_9, wa_9, wl_10, wt_10, wu_10, wa_10, wl_11, wt_11, wu_11, wa_11, wl_13, wt_13, wu_13, wa_13, wl_14, wt_14, wu_14, wa_14, wl_15, wt_15, wu_15, wa_15, wl_16, wt_16, wu_16, wa_16, wl_17, wt_17, wu_17, wa_17, wl_20, wt_20, wu_20, wa_20, wl_21, wt_21, wu_21, wa_21, wl_22, wt_22, wu_22, wa_22, wl_23, wt_23, wu_23, wa_23, wl_24, wt_24, wu_24, wa_24, wl_26, wt_26, wu_26, wa_26, wl_27, wt_27, wu_27, wa_27, wl_28, wt_28, wu_28, wa_28, we_1, we_3, we_10, we_14, we_15, we_16, we_17, we_18, we_20, we_21, we_22, we_24, we_25, we_26, we_27, we_28, we_30, we_31, we_32, wc_20, wc_21, wc_22, wc_24, wc_25, wc_26, wc_27, wc_3, wc_4, wc_7, wc_28, wc_32, ws_1, ws_2, ws_3, ws_4, ws_9, ws_10, ws_11, ws_14, ws_15, ws_16, ws_27, ws_17, ws_20, ws_28, kc_0, kc_1, kn_1, kc_2, kn_2, kc_3, kc_4, kc_5, kc_6, kc_7, kc_8, kc_9, kc_10, kc_12, kc_13, kc_14, kc_16, kc_17, kc_18, kc_19, kc_20, kc_21, kc_22, kc_24, kc_28, kc_30, kc_32, kc_37, kc_40, kc_41, kc_42, kc_43, kc_45, kc_48, kc_56, kc_57, kc_59, kc_60, kc_61, kc_64, kc_73, kc_78, kc_91, kc_95, kc_96, kc_97, kc_98, kc_99, kc_100, kc_112, kc_122, kc_125, kc_126, kc_150, kc_162, kc_163, kc_168, kc_186, kc_190, kc_200, kc_250, kc_255, kc_355, kc_356, kc_404, kc_405, kc_429, kc_573, kc_999, kc_1000, kc_1002, kc_1100, kc_1891, kc_2200, kc_4719, kc_4869, kc_4881, kc_5148, kc_9999, kn_9999, kc_10000, kc_12345, kc_19741, kc_25433, kc_65536, kc_320403, kc_628412, kc_629093, kc_660401, kc_679843, kc_918640, kc_979410, kc_1178088, kc_6232410, kc_24644941, kc_36238189, kc_38270444, kc_392531318, kc_425693491, kc_1103515245, kc_1342154595, kc_2147483648, kc_42328242873, kc_891704255789, kc_1722105685577, kc_1858726030364, ct_0, ct_1, ct_2, ct_3, ct_4, ct_5, cf_0, cf_1, cf_2, cf_3, cf_4, cf_5, w_ty6, w_ty7, m_sv, m_z0, m_hd, m_g0, m_gs, m_s0, m_ss, m_ap, m_an, forall_const, true_and, and_true, ne_eq, not_true_eq_false, not_false_eq_true, false_implies, true_implies, implies_true, eq_self, reduceCtorEq, Nat.reduceDiv, Nat.reduceMod, Int.reduceToNat, or_true, true_or, or_false, false_or, or_self, m_it, m_if, m_c1, m_01, m_02, m_03, m_04, m_10, m_12, m_13, m_14, m_20, m_21, m_23, m_24, m_30, m_31, m_32, m_34, m_40, m_41, m_42, m_43]
  have hp2 := px_e hp p2_w q2_w hc_w
  obtain ⟨v, d1_w, d2_w, d3_w⟩ := c192 h2 43 hp2 ⟨by decide, by decide⟩
  obtain ⟨w, k1_w, k2, k3⟩ := c192 h2 45 hp2 ⟨by decide, by decide⟩
  have fin_w : (∃ c, tkS h2 c) → ∃ r h3, F 220 [182, a] ((a_g3, g), j_up h2 182 7 (j_iop 0 (h2 182 7) 1)) = some (1, r, (a_g3, g), h3) ∧ (¬j_hd [v] = 0 → ∃ r h5, F 216 [182, 4, 0] ((a_g3, g), h3) = some (1, r, (a_g3, g), h5) ∧ ((∃ w, [182, a, j_hd [v]] = [182, a, w]) ∧ QK P (r_T 0) (RJ P) h5 ∧ PX N h h5 ∧ EX (b + 1) h h5) ∧ ((N : Int) - h5 182 7).toNat < ((N : Int) - h2 182 7).toNat) ∧ (j_hd [v] = 0 → ∃ r h5, F 216 [182, 5, 0] ((a_g3, g), h3) = some (1, r, (a_g3, g), h5) ∧ ((∃ w, [182, a, j_hd [v]] = [182, a, w]) ∧ QK P (r_T 0) (RJ P) h5 ∧ PX N h h5 ∧ EX (b + 1) h h5) ∧ ((N : Int) - h5 182 7).toNat < ((N : Int) - h2 182 7).toNat) := by
    rintro ⟨c, t⟩
    rw [jat hp2]
    obtain ⟨h4, z1, z2⟩ := binE c216 ce hp hc_w q2_w p2_w x2_w (by rw [t.2.1]; decide) (Nat.le_refl _)
    obtain ⟨y1, y2, y3, y4, y5⟩ := z2 4 (by decide) (by decide)
    obtain ⟨w1_w, w2_w, w3_w, w4_w, w5⟩ := z2 5 (by decide) (by decide)
    have y6 := y3.2.2.2.2.2.1
    have w6_w := w3_w.2.2.2.2.2.1
    exact ⟨[], h4, z1, fun _ => ⟨[], _, y1, ⟨⟨_, rfl⟩, y2, y3, y4⟩, by omega⟩, fun _ => ⟨[], _, w1_w, ⟨⟨_, rfl⟩, w2_w, w3_w, w4_w⟩, by omega⟩⟩
  exact ⟨[v], h2, d1_w, fun k => ⟨[v], h2, d1_w, fin_w ⟨43, d3_w.mp k⟩⟩, fun k => ⟨[w], h2, k1_w, fun k2 => ⟨[v], h2, d1_w, fin_w ⟨45, k3.mp k2⟩⟩, fun _ => ⟨q2_w, p2_w, x2_w⟩⟩⟩
theorem g_217 {b : Nat} {a : Int} (hK_w : 1001 ≤ K) (c193 : G193 P N g (evF xs L ck K cW g_M n)) (c216 : G216 P N g (evF xs L ck K cW g_M n)) (ce : GE 218 b a P N g (evF xs L ck K cW g_M n)) : GE 217 (b + 1) a P N g (evF xs L ck K cW g_M (n + 1)) := fun h hp hc_w => by
  suffices hs : ∃ r h', evF xs L ck K cW g_M (n + 1) 217 [182, a] ((a_g3, g), h) = some (1, r, ((a_g3, g), h')) ∧ r = [] ∧ QK P (r_T 0) (RJ P) h' ∧ PX N h h' ∧ EX (b + 1) h h' by
    obtain ⟨r, h', e1_w, rfl, e2_w⟩ := hs
    exact ⟨h', e1_w, e2_w⟩
  refine tr_of gm_217 (B := fun r h' => r = [] ∧ QK P (r_T 0) (RJ P) h' ∧ PX N h h' ∧ EX (b + 1) h h') ?_
  show wS _ _ K bb_217 [182, a, 0] h _
  generalize evF xs L ck K cW g_M n = F at c193 c216 ce ⊢
  unfold bb_217
  simp only [wf_4, wf_40, wf_5, wf_50, wf_6, wl_1, wt_1, wu_1, wa_1, wl_4, wt_4, wu_4, wa_4, wl_5, wt_5, wu_5, wa_5, wl_6, wt_6, wu_6, wa_6, wl_9, wt_9, wu_9, wa_9, wl_10, wt_10, wu_10, wa_10, wl_11, wt_11, wu_11, wa_11, wl_13, wt_13, wu_13, wa_13, wl_14, wt_14, wu_14, wa_14, wl_15, wt_15, wu_15, wa_15, wl_16, wt_16, wu_16, wa_16, wl_17, wt_17, wu_17, wa_17, wl_20, wt_20, wu_20, wa_20, wl_21, wt_21, wu_21, wa_21, wl_22, wt_22, wu_22, wa_22, wl_23, wt_23, wu_23, wa_23, wl_24, wt_24, wu_24, wa_24, wl_26, wt_26, wu_26, wa_26, wl_27, wt_27, wu_27, wa_27, wl_28, wt_28, wu_28, wa_28, we_1, we_3, we_10, we_14, we_15, we_16, we_17, we_18, we_20, we_21, we_22, we_24, we_25, we_26, we_27, we_28, we_30, we_31, we_32, wc_20, wc_21, wc_22, wc_24, wc_25, wc_26, wc_27, wc_3, wc_4, wc_7, wc_28, wc_32, ws_1, ws_2, ws_3, ws_4, ws_9, ws_10, ws_11, ws_14, ws_15, ws_16, ws_27, ws_17, ws_20, ws_28, kc_0, kc_1, kn_1, kc_2, kn_2, kc_3, kc_4, kc_5, kc_6, kc_7, kc_8, kc_9, kc_10, kc_12, kc_13, kc_14, kc_16, kc_17, kc_18, kc_19, kc_20, kc_21, kc_22, kc_24, kc_28, kc_30, kc_32, kc_37, kc_40, kc_41, kc_42, kc_43, kc_45, kc_48, kc_56, kc_57, kc_59, kc_60, kc_61, kc_64, kc_73, kc_78, kc_91, kc_95, kc_96, kc_97, kc_98, kc_99, kc_100, kc_112, kc_122, kc_125, kc_126, kc_150, kc_162, kc_163, kc_168, kc_186, kc_190, kc_200, kc_250, kc_255, kc_355, kc_356, kc_404, kc_405, kc_429, kc_573, kc_999, kc_1000, kc_1002, kc_1100, kc_1891, kc_2200, kc_4719, kc_4869, kc_4881, kc_5148, kc_9999, kn_9999, kc_10000, kc_12345, kc_19741, kc_25433, kc_65536, kc_320403, kc_628412, kc_629093, kc_660401, kc_679843, kc_918640, kc_979410, kc_1178088, kc_6232410, kc_24644941, kc_36238189, kc_38270444, kc_392531318, kc_425693491, kc_1103515245, kc_1342154595, kc_2147483648, kc_42328242873, kc_891704255789, kc_1722105685577, kc_1858726030364, ct_0, ct_1, ct_2, ct_3, ct_4, ct_5, cf_0, cf_1, cf_2, cf_3, cf_4, cf_5, w_ty6, w_ty7, m_sv, m_z0, m_hd, m_g0, m_gs, m_s0, m_ss, m_ap, m_an, forall_const, true_and, and_true, ne_eq, not_true_eq_false, not_false_eq_true, false_implies, true_implies, implies_true, eq_self, reduceCtorEq, Nat.reduceDiv, Nat.reduceMod, Int.reduceToNat, or_true, true_or, or_false, false_or, or_self, m_it, m_if, m_c1, m_01, m_02, m_03, m_04, m_10, m_12, m_13, m_14, m_20, m_21, m_23, m_24, m_30, m_31, m_32, m_34, m_40, m_41, m_42, m_43]
  obtain ⟨h1, f1_w, q1_w, p1_w, x1_w⟩ := ce h hp hc_w
  refine ⟨[], h1, f1_w, ?_⟩
  refine w_lp (fun en h' => (∃ v : Int, en = [182, a, v]) ∧ QK P (r_T 0) (RJ P) h' ∧ PX N h h' ∧ EX (b + 1) h h') (fun _ h' => ((N : Int) - h' 182 7).toNat) ⟨⟨0, rfl⟩, q1_w, p1_w, x1_w.mono (by omega)⟩ ?_
  rintro en h2 ⟨⟨v0_w, rfl⟩, q2_w, p2_w, x2_w⟩
  have n1_w := hp.2.1.2.2.2.1
  have n2_w := hp.2.1.2.1
  have n3_w := p2_w.2.2.2.2.1
  refine ⟨?_, ?_⟩
  · show ((N : Int) - h2 182 7).toNat < K
    omega
  simp only [wf_4, wf_40, wf_5, wf_50, wf_6, wl_1, wt_1, wu_1, wa_1, wl_4, wt_4, wu_4, wa_4, wl_5, wt_5, wu_5, wa_5, wl_6, wt_6, wu_6, wa_6, wl_9, wt_9, wu_9, wa_9, wl_10, wt_10, wu_10, wa_10, wl_11, wt_11, wu_11, wa_11, wl_13, wt_13, wu_13, wa_13, wl_14, wt_14, wu_14, wa_14, wl_15, wt_15, wu_15, wa_15, wl_16, wt_16, wu_16, wa_16, wl_17, wt_17, wu_17, wa_17, wl_20, wt_20, wu_20, wa_20, wl_21, wt_21, wu_21, wa_21, wl_22, wt_22, wu_22, wa_22, wl_23, wt_23, wu_23, wa_23, wl_24, wt_24, wu_24, wa_24, wl_26, wt_26, wu_26, wa_26, wl_27, wt_27, wu_27, wa_27, wl_28, wt_28, wu_28, wa_28, we_1, we_3, we_10, we_14, we_15, we_16, we_17, we_18, we_20, we_21, we_22, we_24, we_25, we_26, we_27, we_28, we_30, we_31, we_32, wc_20, wc_21, wc_22, wc_24, wc_25, wc_26, wc_27, wc_3, wc_4, wc_7, wc_28, wc_32, ws_1, ws_2, ws_3, ws_4, ws_9, ws_10, ws_11, ws_14, ws_15, ws_16, ws_27, ws_17, ws_20, ws_28, kc_0, kc_1, kn_1, kc_2, kn_2, kc_3, kc_4, kc_5, kc_6, kc_7, kc_8, kc_9, kc_10, kc_12, kc_13, kc_14, kc_16, kc_17, kc_18, kc_19, kc_20, kc_21, kc_22, kc_24, kc_28, kc_30, kc_32, kc_37, kc_40, kc_41, kc_42, kc_43, kc_45, kc_48, kc_56, kc_57, kc_59, kc_60, kc_61, kc_64, kc_73, kc_78, kc_91, kc_95, kc_96, kc_97, kc_98, kc_99, kc_100, kc_112, kc_122, kc_125, kc_126, kc_150, kc_162, kc_163, kc_168, kc_186, kc_190, kc_200, kc_250, kc_255, kc_355, kc_356, kc_404, kc_405, kc_429, kc_573, kc_999, kc_1000, kc_1002, kc_1100, kc_1891, kc_2200, kc_4719, kc_4869, kc_4881, kc_5148, kc_9999, kn_9999, kc_10000, kc_12345, kc_19741, kc_25433, kc_65536, kc_320403, kc_628412, kc_629093, kc_660401, kc_679843, kc_918640, kc_979410, kc_1178088, kc_6232410, kc_24644941, kc_36238189, kc_38270444, kc_392531318, kc_425693491, kc_1103515245, kc_1342154595, kc_2147483648, kc_42328242873, kc_891704255789, kc_1722105685577, kc_1858726030364, ct_0, ct_1, ct_2, ct_3, ct_4, ct_5, cf_0, cf_1, cf_2, cf_3, cf_4, cf_5, w_ty6, w_ty7, m_sv, m_z0, m_hd, m_g0, m_gs, m_s0, m_ss, m_ap, m_an, forall_const, true_and, and_true, ne_eq, not_true_eq_false, not_false_eq_true, false_implies, true_implies, implies_true, eq_self, reduceCtorEq, Nat.reduceDiv, Nat.reduceMod, Int.reduceToNat, or_true, true_or, or_false, false_or, or_self, m_it, m_if, m_c1, m_01, m_02, m_03, m_04, m_10, m_12, m_13, m_14, m_20, m_21, m_23, m_24, m_30, m_31, m_32, m_34, m_40, m_41, m_42, m_43]
  have hp2 := px_e hp p2_w q2_w hc_w
  obtain ⟨v, d1_w, d2_w, d3_w⟩ := c193 h2 18 hp2 (by decide) (by decide)
  obtain ⟨w, k1_w, k2, k3⟩ := c193 h2 19 hp2 (by decide) (by decide)
  have fin_w : (∃ c, tkW h2 c) → ∃ r h3, F 218 [182, a] ((a_g3, g), j_up h2 182 7 (j_iop 0 (h2 182 7) 1)) = some (1, r, (a_g3, g), h3) ∧ (¬j_hd [v] = 0 → ∃ r h5, F 216 [182, 9, 0] ((a_g3, g), h3) = some (1, r, (a_g3, g), h5) ∧ ((∃ w, [182, a, j_hd [v]] = [182, a, w]) ∧ QK P (r_T 0) (RJ P) h5 ∧ PX N h h5 ∧ EX (b + 1) h h5) ∧ ((N : Int) - h5 182 7).toNat < ((N : Int) - h2 182 7).toNat) ∧ (j_hd [v] = 0 → ∃ r h5, F 216 [182, 10, 0] ((a_g3, g), h3) = some (1, r, (a_g3, g), h5) ∧ ((∃ w, [182, a, j_hd [v]] = [182, a, w]) ∧ QK P (r_T 0) (RJ P) h5 ∧ PX N h h5 ∧ EX (b + 1) h h5) ∧ ((N : Int) - h5 182 7).toNat < ((N : Int) - h2 182 7).toNat) := by
    rintro ⟨c, t⟩
    rw [jat hp2]
    obtain ⟨h4, z1, z2⟩ := binE c216 ce hp hc_w q2_w p2_w x2_w (by rw [t.2.1]; decide) (Nat.le_refl _)
    obtain ⟨y1, y2, y3, y4, y5⟩ := z2 9 (by decide) (by decide)
    obtain ⟨w1_w, w2_w, w3_w, w4_w, w5⟩ := z2 10 (by decide) (by decide)
    have y6 := y3.2.2.2.2.2.1
    have w6_w := w3_w.2.2.2.2.2.1
    exact ⟨[], h4, z1, fun _ => ⟨[], _, y1, ⟨⟨_, rfl⟩, y2, y3, y4⟩, by omega⟩, fun _ => ⟨[], _, w1_w, ⟨⟨_, rfl⟩, w2_w, w3_w, w4_w⟩, by omega⟩⟩
  exact ⟨[v], h2, d1_w, fun k => ⟨[v], h2, d1_w, fin_w ⟨18, d3_w.mp k⟩⟩, fun k => ⟨[w], h2, k1_w, fun k2 => ⟨[v], h2, d1_w, fin_w ⟨19, k3.mp k2⟩⟩, fun _ => ⟨q2_w, p2_w, x2_w⟩⟩⟩
theorem g_218 {b : Nat} {a : Int} (c192 : G192 P N g (evF xs L ck K cW g_M n)) (c195 : G195 P N g (evF xs L ck K cW g_M n)) (c216 : G216 P N g (evF xs L ck K cW g_M n)) (ce : GE 219 b a P N g (evF xs L ck K cW g_M n)) : GE 218 (b + 1) a P N g (evF xs L ck K cW g_M (n + 1)) := fun h hp hc_w => by
  suffices hs : ∃ r h', evF xs L ck K cW g_M (n + 1) 218 [182, a] ((a_g3, g), h) = some (1, r, ((a_g3, g), h')) ∧ r = [] ∧ QK P (r_T 0) (RJ P) h' ∧ PX N h h' ∧ EX (b + 1) h h' by
    obtain ⟨r, h', e1_w, rfl, e2_w⟩ := hs
    exact ⟨h', e1_w, e2_w⟩
  refine tr_of gm_218 (B := fun r h' => r = [] ∧ QK P (r_T 0) (RJ P) h' ∧ PX N h h' ∧ EX (b + 1) h h') ?_
  show wS _ _ K bb_218 [182, a, 0] h _
  generalize evF xs L ck K cW g_M n = F at c192 c195 c216 ce ⊢
  unfold bb_218
  simp only [wf_4, wf_40, wf_5, wf_50, wf_6, wl_1, wt_1, wu_1, wa_1, wl_4, wt_4, wu_4, wa_4, wl_5, wt_5, wu_5, wa_5, wl_6, wt_6, wu_6, wa_6, wl_9, wt_9, wu_9, wa_9, wl_10, wt_10, wu_10, wa_10, wl_11, wt_11, wu_11, wa_11, wl_13, wt_13, wu_13, wa_13, wl_14, wt_14, wu_14, wa_14, wl_15, wt_15, wu_15, wa_15, wl_16, wt_16, wu_16, wa_16, wl_17, wt_17, wu_17, wa_17, wl_20, wt_20, wu_20, wa_20, wl_21, wt_21, wu_21, wa_21, wl_22, wt_22, wu_22, wa_22, wl_23, wt_23, wu_23, wa_23, wl_24, wt_24, wu_24, wa_24, wl_26, wt_26, wu_26, wa_26, wl_27, wt_27, wu_27, wa_27, wl_28, wt_28, wu_28, wa_28, we_1, we_3, we_10, we_14, we_15, we_16, we_17, we_18, we_20, we_21, we_22, we_24, we_25, we_26, we_27, we_28, we_30, we_31, we_32, wc_20, wc_21, wc_22, wc_24, wc_25, wc_26, wc_27, wc_3, wc_4, wc_7, wc_28, wc_32, ws_1, ws_2, ws_3, ws_4, ws_9, ws_10, ws_11, ws_14, ws_15, ws_16, ws_27, ws_17, ws_20, ws_28, kc_0, kc_1, kn_1, kc_2, kn_2, kc_3, kc_4, kc_5, kc_6, kc_7, kc_8, kc_9, kc_10, kc_12, kc_13, kc_14, kc_16, kc_17, kc_18, kc_19, kc_20, kc_21, kc_22, kc_24, kc_28, kc_30, kc_32, kc_37, kc_40, kc_41, kc_42, kc_43, kc_45, kc_48, kc_56, kc_57, kc_59, kc_60, kc_61, kc_64, kc_73, kc_78, kc_91, kc_95, kc_96, kc_97, kc_98, kc_99, kc_100, kc_112, kc_122, kc_125, kc_126, kc_150, kc_162, kc_163, kc_168, kc_186, kc_190, kc_200, kc_250, kc_255, kc_355, kc_356, kc_404, kc_405, kc_429, kc_573, kc_999, kc_1000, kc_1002, kc_1100, kc_1891, kc_2200, kc_4719, kc_4869, kc_4881, kc_5148, kc_9999, kn_9999, kc_10000, kc_12345, kc_19741, kc_25433, kc_65536, kc_320403, kc_628412, kc_629093, kc_660401, kc_679843, kc_918640, kc_979410, kc_1178088, kc_6232410, kc_24644941, kc_36238189, kc_38270444, kc_392531318, kc_425693491, kc_1103515245, kc_1342154595, kc_2147483648, kc_42328242873, kc_891704255789, kc_1722105685577, kc_1858726030364, ct_0, ct_1, ct_2, ct_3, ct_4, ct_5, cf_0, cf_1, cf_2, cf_3, cf_4, cf_5, w_ty6, w_ty7, m_sv, m_z0, m_hd, m_g0, m_gs, m_s0, m_ss, m_ap, m_an, forall_const, true_and, and_true, ne_eq, not_true_eq_false, not_false_eq_true, false_implies, true_implies, implies_true, eq_self, reduceCtorEq, Nat.reduceDiv, Nat.reduceMod, Int.reduceToNat, or_true, true_or, or_false, false_or, or_self, m_it, m_if, m_c1, m_01, m_02, m_03, m_04, m_10, m_12, m_13, m_14, m_20, m_21, m_23, m_24, m_30, m_31, m_32, m_34, m_40, m_41, m_42, m_43]
  obtain ⟨h1, f1_w, q1_w, p1_w, x1_w⟩ := ce h hp hc_w
  have hp1 := px_e hp p1_w q1_w hc_w
  obtain ⟨v, d1_w, d2_w, d3_w⟩ := c192 h1 60 hp1 ⟨by decide, by decide⟩
  obtain ⟨w, h3, k1_w, k2, k3, k4⟩ := c195 h1 60 hp1 ⟨by decide, by decide⟩
  obtain ⟨u, h4, m1_w, m2_w, m3_w, m4_w⟩ := c195 h1 61 hp1 ⟨by decide, by decide⟩
  have fin_w : ∀ {h3}, (∃ c, tkS h1 c ∧ h3 = atp h1) → ∃ r h2, F 219 [182, a] ((a_g3, g), h3) = some (1, r, (a_g3, g), h2) ∧ (¬j_hd [v] = 0 → ∃ r h5, F 216 [182, 7, 0] ((a_g3, g), h2) = some (1, r, (a_g3, g), h5) ∧ QK P (r_T 0) (RJ P) h5 ∧ PX N h h5 ∧ EX (b + 1) h h5) ∧ (j_hd [v] = 0 → ∃ r h5, F 216 [182, 8, 0] ((a_g3, g), h2) = some (1, r, (a_g3, g), h5) ∧ QK P (r_T 0) (RJ P) h5 ∧ PX N h h5 ∧ EX (b + 1) h h5) := by
    rintro h3 ⟨c, t, rfl⟩
    obtain ⟨h4, z1, z2⟩ := binE c216 ce hp hc_w q1_w p1_w (x1_w.mono (by omega)) (by rw [t.2.1]; decide) (Nat.le_refl _)
    obtain ⟨y1, y2, y3, y4, y5⟩ := z2 7 (by decide) (by decide)
    obtain ⟨w1_w, w2_w, w3_w, w4_w, w5⟩ := z2 8 (by decide) (by decide)
    exact ⟨[], h4, z1, fun _ => ⟨[], _, y1, y2, y3, y4⟩, fun _ => ⟨[], _, w1_w, w2_w, w3_w, w4_w⟩⟩
  refine ⟨[], h1, f1_w, [v], h1, d1_w, [w], h3, k1_w, fun k => fin_w ⟨60, k3 k⟩, fun k => ?_⟩
  obtain ⟨k5, rfl⟩ := k4 k
  exact ⟨[u], h4, m1_w, fun k => fin_w ⟨61, m3_w k⟩, fun k => by
    obtain ⟨k5, rfl⟩ := m4_w k
    exact ⟨q1_w, p1_w, x1_w.mono (by omega)⟩⟩
end PAR6
end
section
/-! ===== the reference's parser: a part of an E ===== -/
def tl_221 : SX := (sx 2 (sx 10 (sx 21 (sx 4 (sx 3 z0 z0 z0) (sv 8) z0) z0 (sv 4)) (sx 20 (sx 17 z0 z0 z0) z0 z0) z0) (sx 11 (sx 24 (sx 32 (sx 30 (sx 3 z0 z0 z0) (sx 30 (sx 1 (sv 17) (sv 1) z0) (sx 31 z0 z0 z0) z0) z0) (sv 196) z0) z0 z0) (sx 20 (sx 2 (sx 9 (sx 32 (sx 30 (sx 3 z0 z0 z0) (sx 30 (sx 14 (sx 3 (sv 1) z0 z0) (sx 1 (sv 1) (sv 1) z0) z0) (sx 31 z0 z0 z0) z0) z0) (sv 221) z0) z0 z0) (sx 9 (sx 32 (sx 30 (sx 3 z0 z0 z0) (sx 30 (sx 1 (sv 3) (sv 1) z0) (sx 30 (sx 1 z0 (sv 1) z0) (sx 31 z0 z0 z0) z0) z0) z0) (sv 216) z0) z0 z0) z0) z0 z0) (sx 11 (sx 24 (sx 32 (sx 30 (sx 3 z0 z0 z0) (sx 30 (sx 1 (sv 40) (sv 1) z0) (sx 31 z0 z0 z0) z0) z0) (sv 195) z0) z0 z0) (sx 20 (sx 2 (sx 9 (sx 32 (sx 30 (sx 3 z0 z0 z0) (sx 30 (sx 14 (sx 3 (sv 1) z0 z0) (sx 1 (sv 1) (sv 1) z0) z0) (sx 31 z0 z0 z0) z0) z0) (sv 217) z0) z0 z0) (sx 9 (sx 32 (sx 30 (sx 3 z0 z0 z0) (sx 30 (sx 1 (sv 41) (sv 1) z0) (sx 31 z0 z0 z0) z0) z0) (sv 194) z0) z0 z0) z0) z0 z0) (sx 20 (sx 2 (sx 9 (sx 32 (sx 30 (sx 3 z0 z0 z0) (sx 30 (sx 28 (sx 24 (sx 3 (sv 2) z0 z0) z0 z0) (sx 1 (sv 1) (sv 1) z0) (sx 1 (sv 2) (sv 1) z0)) (sx 30 (sx 28 (sx 24 (sx 3 (sv 2) z0 z0) z0 z0) (sx 18 (sx 7 (sx 5 (sx 3 z0 z0 z0) (sv 6) z0) (sx 4 (sx 3 z0 z0 z0) (sv 7) z0) z0) z0 (sv 3)) (sx 3 (sv 3) z0 z0)) (sx 31 z0 z0 z0) z0) z0) z0) (sv 216) z0) z0 z0) (sx 6 (sx 3 z0 z0 z0) (sx 1 (sv 1) (sv 1) z0) (sv 112)) z0) z0 z0))) z0)
section PAR7
variable {P : Int × Int} {N : Nat} {g : Nat × Nat} {xs : Nat → Int} {L K n : Nat} {ck : Nat → List Nat} {cW : Nat → Nat → Int} {h h1 h2 : XH} {F : XP}
theorem ex_snoc {b : Nat} {x : Int} (c0 : 0 ≤ h 182 12) (h12 : h 182 12 ≤ h2 182 12) (e : EX b h h2) (hx : ∀ t : Nat, t + b ≤ 63 → htO (t + 1) [x] = some (t + 1)) : EX b h (emt h2 x) := by
  intro h0
  rw [emt_8] at h0
  obtain ⟨l, s, n1_w, t1_w⟩ := e h0
  have hn : (h 182 12).toNat + l.length = (h2 182 12).toNat := by omega
  refine ⟨l ++ [x], Seg.app (fun k hk => ?_) (fun k hk => ?_), ?_, fun t ht => ?_⟩
  · rw [emt_ob (fun z => absurd z (by decide)) (fun _ => by omega)]
    exact s k hk
  · have hk0 : k = 0 := by simpa using hk
    subst hk0
    rw [show 1100 + (h 182 12).toNat + l.length + 0 = 1100 + (h2 182 12).toNat by omega]
    unfold emt
    rw [up_ne (fun z => absurd z.1 (by decide)), up_eq]
    rfl
  · rw [emt_12, List.length_append]
    simp only [List.length_cons, List.length_nil]
    omega
  · rw [htO_app (t1_w t ht)]
    exact hx t ht
theorem ex_one {x : Int} (c0 : 0 ≤ h 182 12) (hx : ∀ t : Nat, t + 1 ≤ 63 → htO t [x] = some (t + 1)) : EX 1 h (emt h x) := by
  intro h0
  refine ⟨[x], fun k hk => ?_, by rw [emt_12]; rfl, hx⟩
  have hk0 : k = 0 := by simpa using hk
  subst hk0
  unfold emt
  rw [up_ne (fun z => absurd z.1 (by decide)), Nat.add_zero, up_eq]
  rfl
theorem ex_atp2 {b : Nat} (e : EX b h h2) : EX b h (atp h2) := fun h0 => by
  obtain ⟨l, s, n1_w, t1_w⟩ := e (atp_8.symm.trans h0)
  refine ⟨l, fun k hk => ?_, ?_, t1_w⟩
  · unfold atp
    rw [up_ne (fun z => absurd z.1 (by decide))]
    exact s k hk
  · unfold atp
    rw [up_ne (fun z => absurd z.2 (by decide))]
    exact n1_w
theorem ex_pa {b : Nat} (e : EX b h h1) (a : PA N h1 h2) : EX b h h2 := fun h0 => by
  obtain ⟨l, s, n1_w, t1_w⟩ := e (Decidable.byContradiction fun z => absurd h0 (by rw [a.2.2.2.1 z]; exact z))
  refine ⟨l, fun k hk => ?_, ?_, t1_w⟩
  · rw [a.1 189 _ (fun z => absurd z (by decide))]
    exact s k hk
  · rw [a.1 182 12 (fun _ => by decide)]
    exact n1_w
theorem htO_3 {b : Nat} : ∀ t : Nat, t + b ≤ 63 → htO (t + 1) [3] = some (t + 1) := fun t _ => by
  unfold htO
  rw [if_neg (by decide), if_neg (by decide), if_pos (by decide), if_pos (by omega)]
  rfl
theorem htO_n {v : Int} (hv : 0 ≤ v) : ∀ t : Nat, t + 1 ≤ 63 → htO t [1 + 16 * v] = some (t + 1) := fun t _ => by
  unfold htO
  rw [if_pos ⟨by omega, by omega⟩, if_pos (by omega)]
  rfl
theorem htO_f {v : Int} (hv : 0 ≤ v) (h4 : v < 4) : ∀ t : Nat, t + 1 ≤ 63 → htO t [2 + 16 * v] = some (t + 1) := fun t _ => by
  unfold htO
  rw [if_neg (fun z => by omega), if_pos ⟨by omega, by omega, by omega⟩, if_pos (by omega)]
  rfl
/-- a number_w or_w a fact is_w emitted, and one goes_w on_w -/
theorem one_E (hp : PK P N h) (hc_w : h 182 12 ≤ h 182 7) (ht : h 184 (h 182 7).toNat ≠ 0) {x : Int} (x0_w : InI x) (hx : ∀ t : Nat, t + 1 ≤ 63 → htO t [x] = some (t + 1)) : QK P (r_T 0) (RJ P) (atp (emt h x)) ∧ PX N h (atp (emt h x)) ∧ EX 1 h (atp (emt h x)) := by
  have pn := PA.next hp ht
  obtain ⟨b1, b2, b3, b4, b5, b6⟩ := pn
  obtain ⟨q, ⟨t1_w, t2_w, t3_w, t4_w, t5_w, t6, t7, t8⟩, _⟩ := hp
  have e7_w : atp (emt h x) 182 7 = h 182 7 + 1 := by
    unfold atp
    rw [up_eq, emt_7]
  have e12_w : atp (emt h x) 182 12 = h 182 12 + 1 := by
    unfold atp
    rw [up_ne (fun z => absurd z.2 (by decide)), emt_12]
  have e8 : atp (emt h x) 182 8 = h 182 8 := atp_8.trans emt_8
  rw [up_eq] at b6
  have q1_w := emt_QK q x0_w ⟨t6, by omega⟩
  refine ⟨fld78 (a := 0) (f := 0) (Or.inl rfl) q1_w (by rw [emt_7]; exact ⟨by omega, by omega⟩), ⟨fun o k k1_w k2 => ?_, ?_, ?_, fun _ => e8, ?_, ?_, ?_, ?_⟩, ex_atp2 (ex_one t6 hx)⟩
  · unfold atp
    rw [up_ne (fun z => (k1_w z.1).1 z.2), emt_ob (fun z => (k1_w z).2.2) (fun z => by have := k2 z; omega)]
  · rw [e8]
    exact t1_w
  · rw [e8]
    exact ht_fld q rfl
  · rw [e7_w]
    omega
  · rw [e7_w]
    exact b6
  · rw [e12_w]
    omega
  · rw [e12_w, e7_w]
    omega
def N221 (h : XH) (a num fact : Int) : Prop := h 182 8 = 0 → a < 5 ∧ ((num = 1 ∧ h 184 (h 182 7).toNat = 2) ∨ (num = 0 ∧ ((0 ≤ fact ∧ fact < 4 ∧ ∃ w, tkW h w) ∨ tkS h 40 ∨ tkW h 17)))
theorem t_221 {b : Nat} {a num fact : Int} {R : Nat → List Int → List Int → XH → Prop} (c194 : G194 P N g F) (c195 : G195 P N g F) (c196 : G196 P N g F) (c216 : G216 P N g F) (ce1 : a < 5 → GE 221 b (a + 1) P N g F) (ce2 : a < 5 → GE 217 b (a + 1) P N g F) (hb_w : 1 ≤ b) (a0_w : 0 ≤ a) (hp : PK P N h) (hc_w : h 182 12 ≤ h 182 7) (hn : N221 h a num fact) (hR : ∀ k en h', (k = 0 ∨ k = 1) → QK P (r_T 0) (RJ P) h' → PX N h h' → EX b h h' → R k [] en h') : wS (a_g3, g) F K tl_221 [182, a, num, fact] h R := by
  unfold tl_221
  simp only [wf_4, wf_40, wf_5, wf_50, wf_6, wl_1, wt_1, wu_1, wa_1, wl_4, wt_4, wu_4, wa_4, wl_5, wt_5, wu_5, wa_5, wl_6, wt_6, wu_6, wa_6, wl_9, wt_9, wu_9, wa_9, wl_10, wt_10, wu_10, wa_10, wl_11, wt_11, wu_11, wa_11, wl_13, wt_13, wu_13, wa_13, wl_14, wt_14, wu_14, wa_14, wl_15, wt_15, wu_15, wa_15, wl_16, wt_16, wu_16, wa_16, wl_17, wt_17, wu_17, wa_17, wl_20, wt_20, wu_20, wa_20, wl_21, wt_21, wu_21, wa_21, wl_22, wt_22, wu_22, wa_22, wl_23, wt_23, wu_23, wa_23, wl_24, wt_24, wu_24, wa_24, wl_26, wt_26, wu_26, wa_26, wl_27, wt_27, wu_27, wa_27, wl_28, wt_28, wu_28, wa_28, we_1, we_3, we_10, we_14, we_15, we_16, we_17, we_18, we_20, we_21, we_22, we_24, we_25, we_26, we_27, we_28, we_30, we_31, we_32, wc_20, wc_21, wc_22, wc_24, wc_25, wc_26, wc_27, wc_3, wc_4, wc_7, wc_28, wc_32, ws_1, ws_2, ws_3, ws_4, ws_9, ws_10, ws_11, ws_14, ws_15, ws_16, ws_27, ws_17, ws_20, ws_28, kc_0, kc_1, kn_1, kc_2, kn_2, kc_3, kc_4, kc_5, kc_6, kc_7, kc_8, kc_9, kc_10, kc_12, kc_13, kc_14, kc_16, kc_17, kc_18, kc_19, kc_20, kc_21, kc_22, kc_24, kc_28, kc_30, kc_32, kc_37, kc_40, kc_41, kc_42, kc_43, kc_45, kc_48, kc_56, kc_57, kc_59, kc_60, kc_61, kc_64, kc_73, kc_78, kc_91, kc_95, kc_96, kc_97, kc_98, kc_99, kc_100, kc_112, kc_122, kc_125, kc_126, kc_150, kc_162, kc_163, kc_168, kc_186, kc_190, kc_200, kc_250, kc_255, kc_355, kc_356, kc_404, kc_405, kc_429, kc_573, kc_999, kc_1000, kc_1002, kc_1100, kc_1891, kc_2200, kc_4719, kc_4869, kc_4881, kc_5148, kc_9999, kn_9999, kc_10000, kc_12345, kc_19741, kc_25433, kc_65536, kc_320403, kc_628412, kc_629093, kc_660401, kc_679843, kc_918640, kc_979410, kc_1178088, kc_6232410, kc_24644941, kc_36238189, kc_38270444, kc_392531318, kc_425693491, kc_1103515245, kc_1342154595, kc_2147483648, kc_42328242873, kc_891704255789, kc_1722105685577, kc_1858726030364, ct_0, ct_1, ct_2, ct_3, ct_4, ct_5, cf_0, cf_1, cf_2, cf_3, cf_4, cf_5, w_ty6, w_ty7, m_sv, m_z0, m_hd, m_g0, m_gs, m_s0, m_ss, m_ap, m_an, forall_const, true_and, and_true, ne_eq, not_true_eq_false, not_false_eq_true, false_implies, true_implies, implies_true, eq_self, reduceCtorEq, Nat.reduceDiv, Nat.reduceMod, Int.reduceToNat, or_true, true_or, or_false, false_or, or_self, m_it, m_if, m_c1, m_01, m_02, m_03, m_04, m_10, m_12, m_13, m_14, m_20, m_21, m_23, m_24, m_30, m_31, m_32, m_34, m_40, m_41, m_42, m_43]
  have pq_w := hp
  obtain ⟨q, ⟨t1_w, t2_w, t3_w, t4_w, t5_w, t6, t7, t8⟩, _⟩ := pq_w
  have px0 : PX N h h := PA.px hp (PA.rf hp)
  have ba_w : 0 ≤ h 182 7 ∧ h 182 7 < 1002 := ⟨t2_w, by omega⟩
  refine ⟨fun k => hR 1 _ h (Or.inr rfl) q px0 (fun z => by omega), fun k => ?_⟩
  have k0_w : h 182 8 = 0 := by omega
  obtain ⟨a5, hn⟩ := hn k0_w
  have e12_w : atp h 182 12 = h 182 12 := up_ne (fun z => absurd z.2 (by decide))
  have e7_w : atp h 182 7 = h 182 7 + 1 := up_eq
  obtain ⟨v, h1, d1_w, d2_w, d3_w, d4_w⟩ := c196 h 17 hp (by decide) (by decide)
  rw [jadd (x := a) (y := 1) (by omega) (by omega)]
  refine ⟨[v], h1, d1_w, fun kv => ?_, fun kv => ?_⟩
  · obtain ⟨t, rfl⟩ := d3_w kv
    have tt : h 184 (h 182 7).toNat ≠ 0 := by rw [t.2.1]; decide
    obtain ⟨h2, f1_w, q2_w, p2_w, x2_w⟩ := ce1 a5 (atp h) (hp.pa (PA.next hp tt)) (by rw [e12_w, e7_w]; omega)
    obtain ⟨s1_w, s2_w, s3_w⟩ := stepE hp hc_w tt p2_w q2_w (x := 3) ⟨by decide, by decide⟩
    have b6 := p2_w.2.2.2.2.2.1
    have b7 := p2_w.2.2.2.2.2.2.1
    have b8 := p2_w.2.2.2.2.2.2.2
    rw [e12_w] at b7 b8
    rw [e7_w] at b8
    have k := c216 h2 3 0 (by omega) (by omega) (by decide) (by decide) (by decide) (by decide)
    rw [Int.mul_zero, Int.add_zero] at k
    exact ⟨[], h2, f1_w, [], _, k, hR 0 _ _ (Or.inl rfl) s1_w s2_w (ex_snoc t6 b7 (ex_atp x2_w) htO_3)⟩
  · rw [(d4_w kv).2]
    obtain ⟨w, h3, m1_w, m2_w, m3_w, m4_w⟩ := c195 h 40 hp ⟨by decide, by decide⟩
    refine ⟨[w], h3, m1_w, fun kw => ?_, fun kw => ?_⟩
    · obtain ⟨t, rfl⟩ := m3_w kw
      have tt : h 184 (h 182 7).toNat ≠ 0 := by rw [t.2.1]; decide
      have pn := PA.next hp tt
      have hpa : PK P N (atp h) := hp.pa pn
      have hca : atp h 182 12 ≤ atp h 182 7 := by rw [e12_w, e7_w]; omega
      obtain ⟨h2, f1_w, q2_w, p2_w, x2_w⟩ := ce2 a5 (atp h) hpa hca
      have hp2 := px_e hpa p2_w q2_w hca
      obtain ⟨h4, y1, y2, -⟩ := c194 h2 41 hp2 ⟨by decide, by decide⟩
      exact ⟨[], h2, f1_w, [], h4, y1, hR 0 _ _ (Or.inl rfl) (hp2.pa y2).1 ((PA.px hp pn).tr (p2_w.tr (PA.px hp2 y2) (by rw [e12_w]; exact t6)) t6) (ex_pa (ex_atp x2_w) y2)⟩
    · rw [(m4_w kw).2]
      have nt := (d4_w kv).1
      have np := (m4_w kw).1
      rcases hn with ⟨rfl, hs⟩ | ⟨rfl, hm_w⟩
      · refine ⟨fun _ => ⟨fun _ => ⟨ba_w, ?_⟩, fun z => absurd z (by decide)⟩, fun z => absurd z (by decide)⟩
        have hN_w : (h 182 7).toNat < N := by
          rcases Nat.lt_or_ge (h 182 7).toNat N with z | z
          · exact z
          · have z2 : (h 182 7).toNat = N := by omega
            rw [z2, t5_w] at hs
            exact absurd hs (by decide)
        obtain ⟨v0_w, v1_w⟩ := t8 _ hN_w hs
        rw [show j_un 3 (h 186 (h 182 7).toNat) = h 186 (h 182 7).toNat from j32_in ⟨by omega, by omega⟩]
        obtain ⟨z1, z2, z3⟩ := one_E hp hc_w (by rw [hs]; decide) (x := 1 + 16 * h 186 (h 182 7).toNat) ⟨by omega, by omega⟩ (htO_n v0_w)
        refine ⟨[], _, c216 h 1 _ t6 (by omega) (by decide) (by decide) v0_w v1_w, ?_⟩
        rw [show j_iop 0 (emt h (1 + 16 * h 186 (h 182 7).toNat) 182 7) 1 = emt h (1 + 16 * h 186 (h 182 7).toNat) 182 7 + 1 by rw [emt_7]; exact jat hp]
        exact hR 0 _ _ (Or.inl rfl) z1 z2 (z3.mono hb_w)
      · refine ⟨fun z => absurd rfl z, fun _ => ⟨fun z => absurd rfl z, fun _ => ?_⟩⟩
        rcases hm_w with ⟨f0_w, f1_w, w2_w, tw⟩ | z | z
        · obtain ⟨z1, z2, z3⟩ := one_E hp hc_w (by rw [tw.2.1]; decide) (x := 2 + 16 * fact) ⟨by omega, by omega⟩ (htO_f f0_w f1_w)
          refine ⟨[], _, c216 h 2 fact t6 (by omega) (by decide) (by decide) f0_w (by omega), ?_⟩
          rw [show j_iop 0 (emt h (2 + 16 * fact) 182 7) 1 = emt h (2 + 16 * fact) 182 7 + 1 by rw [emt_7]; exact jat hp]
          exact hR 0 _ _ (Or.inl rfl) z1 z2 (z3.mono hb_w)
        · exact absurd z np
        · exact absurd z nt
theorem b_221 : bb_221 = (sx 2 (sx 2 (sx 10 (sx 21 (sx 4 (sx 3 z0 z0 z0) (sv 8) z0) z0 (sv 4)) (sx 20 (sx 17 z0 z0 z0) z0 z0) z0) (sx 2 (sx 3 (sv 2) (sx 20 (sx 7 (sx 5 (sx 3 z0 z0 z0) (sv 4) z0) (sx 4 (sx 3 z0 z0 z0) (sv 7) z0) z0) (sx 1 (sv 2) (sv 1) z0) z0) z0) (sx 2 (sx 3 (sv 3) (sx 32 (sx 30 (sx 3 z0 z0 z0) (sx 30 (sx 1 (sv 20) (sv 1) z0) (sx 30 (sx 1 (sv 4) (sv 1) z0) (sx 31 z0 z0 z0) z0) z0) z0) (sv 201) z0) z0) (sx 2 (sx 11 (sx 25 (sx 25 (sx 25 (sx 21 (sx 3 (sv 3) z0 z0) z0 (sv 2)) (sx 27 (sx 24 (sx 3 (sv 2) z0 z0) z0 z0) z0 z0) z0) (sx 27 (sx 24 (sx 32 (sx 30 (sx 3 z0 z0 z0) (sx 30 (sx 1 (sv 40) (sv 1) z0) (sx 31 z0 z0 z0) z0) z0) (sv 192) z0) z0 z0) z0 z0) z0) (sx 27 (sx 24 (sx 32 (sx 30 (sx 3 z0 z0 z0) (sx 30 (sx 1 (sv 17) (sv 1) z0) (sx 31 z0 z0 z0) z0) z0) (sv 193) z0) z0 z0) z0 z0) z0) (sx 20 (sx 9 (sx 32 (sx 30 (sx 3 z0 z0 z0) (sx 30 (sx 1 (sv 1) (sv 1) z0) (sx 31 z0 z0 z0) z0) z0) (sv 191) z0) z0 z0) z0 z0) (sx 10 (sx 20 (sx 3 (sv 1) z0 z0) (sx 1 (sv 5) (sv 1) z0) z0) (sx 20 (sx 9 (sx 32 (sx 30 (sx 3 z0 z0 z0) (sx 30 (sx 1 (sv 5) (sv 1) z0) (sx 31 z0 z0 z0) z0) z0) (sv 191) z0) z0 z0) z0 z0) z0)) tl_221 z0) z0) z0) z0) (sx 17 z0 z0 z0) z0) := rfl
def E221 (P : Int × Int) (N b : Nat) (h : XH) : Nat → List Int → List Int → XH → Prop := fun k vs _ h1 => (k = 0 → QK P (r_T 0) (RJ P) h1 ∧ PX N h h1 ∧ EX b h h1) ∧ (¬k = 0 → k = 1 ∧ vs = [] ∧ QK P (r_T 0) (RJ P) h1 ∧ PX N h h1 ∧ EX b h h1)
theorem ex_12 {b : Nat} (e12_w : h1 182 12 = h 182 12) (e : EX b h1 h2) : EX b h h2 := fun h0 => by
  have k := e h0
  rw [e12_w] at k
  exact k
theorem g_221 {b : Nat} {a : Int} (c191 : G191 P N g (evF xs L ck K cW g_M n)) (c192 : G192 P N g (evF xs L ck K cW g_M n)) (c193 : G193 P N g (evF xs L ck K cW g_M n)) (c194 : G194 P N g (evF xs L ck K cW g_M n)) (c195 : G195 P N g (evF xs L ck K cW g_M n)) (c196 : G196 P N g (evF xs L ck K cW g_M n)) (c201 : G201 P N g (evF xs L ck K cW g_M n)) (c216 : G216 P N g (evF xs L ck K cW g_M n)) (ce1 : a < 5 → GE 221 b (a + 1) P N g (evF xs L ck K cW g_M n)) (ce2 : a < 5 → GE 217 b (a + 1) P N g (evF xs L ck K cW g_M n)) (hb_w : 1 ≤ b) (a0_w : 0 ≤ a) (a5 : a ≤ 5) : GE 221 b a P N g (evF xs L ck K cW g_M (n + 1)) := fun h hp hc_w => by
  suffices hs : ∃ r h', evF xs L ck K cW g_M (n + 1) 221 [182, a] ((a_g3, g), h) = some (1, r, ((a_g3, g), h')) ∧ r = [] ∧ QK P (r_T 0) (RJ P) h' ∧ PX N h h' ∧ EX b h h' by
    obtain ⟨r, h', e1_w, rfl, e2_w⟩ := hs
    exact ⟨h', e1_w, e2_w⟩
  refine tr_of gm_221 (B := fun r h' => r = [] ∧ QK P (r_T 0) (RJ P) h' ∧ PX N h h' ∧ EX b h h') ?_
  show wS _ _ K bb_221 [182, a, 0, 0] h _
  generalize evF xs L ck K cW g_M n = F at c191 c192 c193 c194 c195 c196 c201 c216 ce1 ce2 ⊢
  rw [b_221]
  simp only [wf_4, wf_40, wf_5, wf_50, wf_6, wl_1, wt_1, wu_1, wa_1, wl_4, wt_4, wu_4, wa_4, wl_5, wt_5, wu_5, wa_5, wl_6, wt_6, wu_6, wa_6, wl_9, wt_9, wu_9, wa_9, wl_10, wt_10, wu_10, wa_10, wl_11, wt_11, wu_11, wa_11, wl_13, wt_13, wu_13, wa_13, wl_14, wt_14, wu_14, wa_14, wl_15, wt_15, wu_15, wa_15, wl_16, wt_16, wu_16, wa_16, wl_17, wt_17, wu_17, wa_17, wl_20, wt_20, wu_20, wa_20, wl_21, wt_21, wu_21, wa_21, wl_22, wt_22, wu_22, wa_22, wl_23, wt_23, wu_23, wa_23, wl_24, wt_24, wu_24, wa_24, wl_26, wt_26, wu_26, wa_26, wl_27, wt_27, wu_27, wa_27, wl_28, wt_28, wu_28, wa_28, we_1, we_3, we_10, we_14, we_15, we_16, we_17, we_18, we_20, we_21, we_22, we_24, we_25, we_26, we_27, we_28, we_30, we_31, we_32, wc_20, wc_21, wc_22, wc_24, wc_25, wc_26, wc_27, wc_3, wc_4, wc_7, wc_28, wc_32, ws_1, ws_2, ws_3, ws_4, ws_9, ws_10, ws_11, ws_14, ws_15, ws_16, ws_27, ws_17, ws_20, ws_28, kc_0, kc_1, kn_1, kc_2, kn_2, kc_3, kc_4, kc_5, kc_6, kc_7, kc_8, kc_9, kc_10, kc_12, kc_13, kc_14, kc_16, kc_17, kc_18, kc_19, kc_20, kc_21, kc_22, kc_24, kc_28, kc_30, kc_32, kc_37, kc_40, kc_41, kc_42, kc_43, kc_45, kc_48, kc_56, kc_57, kc_59, kc_60, kc_61, kc_64, kc_73, kc_78, kc_91, kc_95, kc_96, kc_97, kc_98, kc_99, kc_100, kc_112, kc_122, kc_125, kc_126, kc_150, kc_162, kc_163, kc_168, kc_186, kc_190, kc_200, kc_250, kc_255, kc_355, kc_356, kc_404, kc_405, kc_429, kc_573, kc_999, kc_1000, kc_1002, kc_1100, kc_1891, kc_2200, kc_4719, kc_4869, kc_4881, kc_5148, kc_9999, kn_9999, kc_10000, kc_12345, kc_19741, kc_25433, kc_65536, kc_320403, kc_628412, kc_629093, kc_660401, kc_679843, kc_918640, kc_979410, kc_1178088, kc_6232410, kc_24644941, kc_36238189, kc_38270444, kc_392531318, kc_425693491, kc_1103515245, kc_1342154595, kc_2147483648, kc_42328242873, kc_891704255789, kc_1722105685577, kc_1858726030364, ct_0, ct_1, ct_2, ct_3, ct_4, ct_5, cf_0, cf_1, cf_2, cf_3, cf_4, cf_5, w_ty6, w_ty7, m_sv, m_z0, m_hd, m_g0, m_gs, m_s0, m_ss, m_ap, m_an, forall_const, true_and, and_true, ne_eq, not_true_eq_false, not_false_eq_true, false_implies, true_implies, implies_true, eq_self, reduceCtorEq, Nat.reduceDiv, Nat.reduceMod, Int.reduceToNat, or_true, true_or, or_false, false_or, or_self, m_it, m_if, m_c1, m_01, m_02, m_03, m_04, m_10, m_12, m_13, m_14, m_20, m_21, m_23, m_24, m_30, m_31, m_32, m_34, m_40, m_41, m_42, m_43]
  have p1_w := hp.2.1.1
  have c0 := hp.2.1.2.2.2.2.2.1
  have t2_w := hp.2.1.2.1
  have t3_w := hp.2.1.2.2.1
  have t4_w := hp.2.1.2.2.2.1
  have ba_w : 0 ≤ h 182 7 ∧ h 182 7 < 1002 := ⟨t2_w, by omega⟩
  have T : ∀ (num fact : Int) (h2 : XH), PA N h h2 → N221 h2 a num fact → wS (a_g3, g) F K tl_221 [182, a, num, fact] h2 (E221 P N b h) := fun num fact h2 ha_w hn => by
    have e12_w : h2 182 12 = h 182 12 := ha_w.1 182 12 (fun _ => by decide)
    have a5' := ha_w.2.2.2.2.1
    refine t_221 c194 c195 c196 c216 ce1 ce2 hb_w a0_w (hp.pa ha_w) (by omega) hn ?_
    intro k en h' hk q px ex_w
    have good_w : QK P (r_T 0) (RJ P) h' ∧ PX N h h' ∧ EX b h h' := ⟨q, (PA.px hp ha_w).tr px c0, ex_12 e12_w ex_w⟩
    exact ⟨fun _ => good_w, fun z => ⟨by omega, rfl, good_w⟩⟩
  have W : ∀ (w : Int) (num fact : Int), 1 ≤ w → w ≤ 5 → ∃ r h2, F 191 [182, w] ((a_g3, g), h) = some (1, r, (a_g3, g), h2) ∧ wS (a_g3, g) F K tl_221 [182, a, num, fact] h2 (E221 P N b h) := fun w num fact w0_w w1_w => by
    obtain ⟨h2, f1_w, f2_w, f3_w, f4_w, -⟩ := c191 h w hp w0_w w1_w
    exact ⟨[], h2, f1_w, T num fact h2 f2_w (fun z => absurd z f4_w)⟩
  have D : ∀ (num fact : Int), (h 182 8 = 0 → (num = 1 ∧ h 184 (h 182 7).toNat = 2) ∨ (num = 0 ∧ ((0 ≤ fact ∧ fact < 4 ∧ ∃ w, tkW h w) ∨ tkS h 40 ∨ tkW h 17))) → (a = 5 → ∃ r h2, F 191 [182, 5] ((a_g3, g), h) = some (1, r, (a_g3, g), h2) ∧ wS (a_g3, g) F K tl_221 [182, a, num, fact] h2 (E221 P N b h)) ∧ (¬a = 5 → wS (a_g3, g) F K tl_221 [182, a, num, fact] h (E221 P N b h)) := fun num fact hn => ⟨fun _ => W 5 num fact (by decide) (by decide), fun z => T num fact h (PA.rf hp) (fun k => ⟨by omega, hn k⟩)⟩
  refine ⟨fun k => ⟨hp.1, PA.px hp (PA.rf hp), fun z => by omega⟩, fun k => ⟨ba_w, fun hs => ?_, fun hs => ?_⟩⟩
  · obtain ⟨v, e1_w, e2_w, e3_w, e4_w, e5_w⟩ := c201 h 20 4 hp (by decide) (by decide) (by decide)
    have no : v < 0 := by
      rcases Int.lt_or_le v 0 with z | z
      · exact z
      · have z2 := (e4_w z).2.2.1
        rw [hs] at z2
        exact absurd z2 (by decide)
    exact ⟨[v], h, e1_w, fun _ => ⟨fun _ => D 1 v (fun _ => Or.inl ⟨rfl, hs⟩), fun z => absurd z (by decide)⟩, fun z => absurd no (Int.not_lt.mpr z)⟩
  · obtain ⟨v, e1_w, e2_w, e3_w, e4_w, e5_w⟩ := c201 h 20 4 hp (by decide) (by decide) (by decide)
    obtain ⟨w, d1_w, d2_w, d3_w⟩ := c192 h 40 hp ⟨by decide, by decide⟩
    obtain ⟨u, m1_w, m2_w, m3_w⟩ := c193 h 17 hp (by decide) (by decide)
    exact ⟨[v], h, e1_w, fun _ => ⟨[w], h, d1_w, fun k2 => D 0 v (fun _ => Or.inr ⟨rfl, Or.inr (Or.inl (d3_w.mp k2))⟩), fun _ => ⟨[u], h, m1_w, fun k2 => D 0 v (fun _ => Or.inr ⟨rfl, Or.inr (Or.inr (m3_w.mp k2))⟩), fun _ => W 1 0 v (by decide) (by decide)⟩⟩, fun z => D 0 v (fun _ => Or.inr ⟨rfl, Or.inl ⟨z, (e4_w z).1, _, (e4_w z).2⟩⟩)⟩
/-- every fuel is_w enough_w that is_w so much deeper -/
def PB (P : Int × Int) (N : Nat) (g : Nat × Nat) (F : XP) : Prop := G191 P N g F ∧ G192 P N g F ∧ G193 P N g F ∧ G194 P N g F ∧ G195 P N g F ∧ G196 P N g F ∧ G197 P N g F ∧ G200 P N g F ∧ G201 P N g F ∧ G202 P N g F ∧ G203 P N g F ∧ G204 P N g F ∧ G205 P N g F ∧ G216 P N g F
theorem p_b (hK_w : 4294967300 ≤ K) : PB P N g (evF xs L ck K cW g_M (n + 5)) :=
  ⟨g_191, g_192, g_193, g_194 g_192 g_191, g_195 g_192, g_196 g_193, g_197 (g_196 g_193) g_191, g_200 g_191, g_201 hK_w g_193, g_202 (g_201 hK_w g_193) g_191, g_203 (g_201 hK_w g_193), g_204 hK_w, g_205 (g_203 (g_201 hK_w g_193)) (g_204 hK_w) g_191, g_216⟩
theorem GE.mono {f b c : Nat} {d : Int} (e : GE f b d P N g F) (hb_w : b ≤ c) : GE f c d P N g F := fun h hp hc_w => by
  obtain ⟨h', e1_w, e2_w, e3_w, e4_w⟩ := e h hp hc_w
  exact ⟨h', e1_w, e2_w, e3_w, EX.mono e4_w hb_w⟩
theorem g_E1 {k : Nat} {d : Int} (hK_w : 4294967300 ≤ K) (e : GE 221 (4 * k + 1) d P N g (evF xs L ck K cW g_M (n + 2))) : GE 217 (4 * k + 5) d P N g (evF xs L ck K cW g_M (n + 6)) :=
  g_217 (b := 4 * k + 4) (by omega) g_193 g_216 (g_218 (b := 4 * k + 3) g_192 (g_195 g_192) g_216 (g_219 (b := 4 * k + 2) (by omega) g_192 g_216 (g_220 (b := 4 * k + 1) (by omega) (g_195 g_192) g_216 e)))
theorem g_E (hK_w : 4294967300 ≤ K) : ∀ (k n : Nat) (d : Int), d = 5 - (k : Int) → 0 ≤ d → GE 221 (4 * k + 1) d P N g (evF xs L ck K cW g_M (n + (5 * k + 6))) ∧ GE 217 (4 * k + 5) d P N g (evF xs L ck K cW g_M (n + (5 * k + 10)))
  | 0, n, d, hd_w, d0_w => by
    obtain ⟨c191, c192, c193, c194, c195, c196, c197, c200, c201, c202, c203, c204, c205, c216⟩ := p_b (P := P) (N := N) (g := g) (xs := xs) (L := L) (K := K) (n := n) (ck := ck) (cW := cW) hK_w
    have e : GE 221 (4 * 0 + 1) d P N g (evF xs L ck K cW g_M (n + 6)) := g_221 c191 c192 c193 c194 c195 c196 c201 c216 (fun z => by omega) (fun z => by omega) (by decide) d0_w (by omega)
    exact ⟨e, g_E1 (n := n + 4) hK_w e⟩
  | k + 1, n, d, hd_w, d0_w => by
    obtain ⟨c191, c192, c193, c194, c195, c196, c197, c200, c201, c202, c203, c204, c205, c216⟩ := p_b (P := P) (N := N) (g := g) (xs := xs) (L := L) (K := K) (n := n + (5 * k + 5)) (ck := ck) (cW := cW) hK_w
    have i1_w := (g_E hK_w k n (d + 1) (by omega) (by omega)).2
    have i2_w := (g_E hK_w k (n + 4) (d + 1) (by omega) (by omega)).1
    rw [show n + 4 + (5 * k + 6) = n + (5 * k + 10) by omega] at i2_w
    have e : GE 221 (4 * k + 5) d P N g (evF xs L ck K cW g_M (n + (5 * k + 10) + 1)) := g_221 c191 c192 c193 c194 c195 c196 c201 c216 (fun _ => i2_w.mono (by omega)) (fun _ => i1_w) (by omega) d0_w (by omega)
    have e2_w := g_E1 (k := k + 1) (n := n + (5 * k + 9)) hK_w e
    exact ⟨e, e2_w⟩
end PAR7
end
section
/-! ===== the reference's parser: what is_w drafted ===== -/
/-- at, fault, some cells_w of the draft and the new_w names_w alone_w are written_w -/
def PF (N : Nat) (W : Nat → Prop) (h h' : XH) : Prop := (∀ o k : Nat, (o = 182 → k ≠ 7 ∧ k ≠ 8) → (o = 188 → ¬W k) → (o = 190 → k < 14) → h' o k = h o k) ∧ 0 ≤ h' 182 8 ∧ InI (h' 182 8) ∧ (h 182 8 ≠ 0 → h' 182 8 = h 182 8) ∧ h 182 7 ≤ h' 182 7 ∧ h' 182 7 ≤ (N : Int)
def G207 (g : Nat × Nat) (F : XP) : Prop := ∀ (h : XH) (a : Int), 0 ≤ a → a < 95 → F 207 [182, a] ((a_g3, g), h) = some (1, [h 188 (95 + a.toNat)], ((a_g3, g), h))
def g_fit (lo_w hi_w : Nat) (t : IT) : Bool := (r_A 188).2.2.all fun r => (Nat.ble hi_w r.1 || Nat.ble r.2.1 lo_w) || i_sub t r.2.2
section PAR8
variable {P : Int × Int} {N : Nat} {g : Nat × Nat} {xs : Nat → Int} {L K n : Nat} {ck : Nat → List Nat} {cW : Nat → Nat → Int} {h h' h1 h2 : XH} {F : XP} {W V : Nat → Prop}
theorem g_fit_ok {lo_w hi_w i : Nat} {t : IT} {v : Int} (hc_w : g_fit lo_w hi_w t = true) (h1 : lo_w ≤ i) (h2 : i < hi_w) (hv : IV P t v) : ∀ r ∈ (r_A 188).2.2, r.1 ≤ i → i < r.2.1 → IV P r.2.2 v := by
  intro r hr k1_w k2
  have h3 := List.all_eq_true.mp hc_w r hr
  simp only [Bool.or_eq_true, Nat.ble_eq] at h3
  exact IV.sub (h3.resolve_left (by omega)) hv
theorem dw_QK (hQ : QK P (r_T 0) (RJ P) h) {q i : Nat} {v : Int} (hH : HT g_fk a_g3 (j_up h q i v)) (hq : (q = 188 ∧ 95 ≤ i) ∨ (q = 189 ∧ 1100 ≤ i) ∨ q = 190 ∨ (q = 191 ∧ 125 ≤ i)) (hv : ∀ r ∈ (r_A q).2.2, r.1 ≤ i → i < r.2.1 → IV P r.2.2 v) : QK P (r_T 0) (RJ P) (j_up h q i v) := by
  have h0 : 0 ≤ h 191 0 ∧ h 191 0 ≤ 30 := by
    have k : IV P (1, 0, 30) (h 191 0) := q_cell hQ (q := 191) (r := 0) (x := (0, 1, (1, 0, 30))) (by decide) rfl rfl (by decide) (by decide)
    exact ⟨k.1, k.2.1⟩
  have m0_w := (q_nM hQ).2
  have c0 := (q_nC hQ).2
  refine ⟨hH, fun k => ?_, fun q' hq' => ?_, ?_⟩
  · rw [up_ne (fun z => by omega)]
    exact hQ.2.1 k
  · by_cases e : q' = q
    · subst e
      intro r hr a b k1_w k2 k3
      have eb : (qA (r_T 0) q').2.1 = 0 := by
        rcases hq with ⟨rfl, _⟩ | ⟨rfl, _⟩ | rfl | ⟨rfl, _⟩ <;> rfl
      have old_w := hQ.2.2.1 q' hq' r hr a b k1_w k2 k3
      rw [eb, Nat.zero_mul, Nat.zero_add] at old_w ⊢
      by_cases e2_w : a = i
      · subst e2_w
        rw [up_eq]
        exact hv r hr k1_w k2
      · rw [up_ne (fun z => e2_w z.2)]
        exact old_w
    · have e2_w : j_up h q i v q' = h q' := funext fun i => up_ne (fun z => e z.1)
      rw [e2_w]
      exact hQ.2.2.1 q' hq'
  · obtain ⟨⟨j1, j1'⟩, j2_w, j3_w⟩ := hQ.2.2.2
    have lo_w : ∀ k, k < 95 → j_up h q i v 188 k = h 188 k := fun k hk => up_ne (fun z => by omega)
    have lc : ∀ k, k < 1100 → j_up h q i v 189 k = h 189 k := fun k hk => up_ne (fun z => by omega)
    have ll : ∀ k, k < 125 → j_up h q i v 191 k = h 191 k := fun k hk => up_ne (fun z => by omega)
    refine ⟨⟨fun m hm_w => ?_, fun c hc_w => ?_⟩, fun z => ?_, fun n hn => ?_⟩
    · rw [lo_w _ (by omega)]
      exact j1 m hm_w
    · rw [lo_w _ (by omega)]
      exact j1' c hc_w
    · rw [lo_w 4 (by decide)] at z ⊢
      exact (j2_w z).up lc
    · rw [ll 0 (by decide)] at hn
      rw [ll _ (by omega), ll _ (by omega), ll _ (by omega), ll _ (by omega)]
      exact j3_w n hn
theorem PA.pf (a : PA N h h') : PF N W h h' := ⟨fun o k e _ _ => a.1 o k e, a.2⟩
theorem PF.tr (a : PF N W h h') (b : PF N W h' h2) : PF N W h h2 := by
  obtain ⟨a1_w, a2, a3, a4, a5, a6⟩ := a
  obtain ⟨b1, b2, b3, b4, b5, b6⟩ := b
  exact ⟨fun o k e e2_w e3_w => (b1 o k e e2_w e3_w).trans (a1_w o k e e2_w e3_w), b2, b3, fun e => by rw [b4 (by rw [a4 e]; exact e), a4 e], by omega, b6⟩
theorem PF.mono (a : PF N W h h') (hw : ∀ k, W k → V k) : PF N V h h' := ⟨fun o k e e2_w e3_w => a.1 o k e (fun z z2 => e2_w z (hw k z2)) e3_w, a.2⟩
/-- what PK asks_w, from the frame_w -/
theorem PF.pt (hp : PT N h) (a : PF N W h h') : PT N h' := by
  obtain ⟨a1_w, a2, a3, a4, a5, a6⟩ := a
  obtain ⟨p1_w, p2_w, p3_w, p4_w, p5_w, p6_w, p7_w, p8_w⟩ := hp
  have e12_w : h' 182 12 = h 182 12 := a1_w 182 12 (fun _ => by decide) (fun z => absurd z (by decide)) (fun z => absurd z (by decide))
  refine ⟨a2, by omega, a6, p4_w, ?_, by omega, by omega, fun i hi_w hs => ?_⟩
  · rw [a1_w 184 N (fun z => absurd z (by decide)) (fun z => absurd z (by decide)) (fun z => absurd z (by decide))]
    exact p5_w
  · rw [a1_w 184 i (fun z => absurd z (by decide)) (fun z => absurd z (by decide)) (fun z => absurd z (by decide))] at hs
    rw [a1_w 186 i (fun z => absurd z (by decide)) (fun z => absurd z (by decide)) (fun z => absurd z (by decide))]
    exact p8_w i hi_w hs
theorem DG.up (hQ : QK P (r_T 0) (RJ P) h) (hd_w : DG h) (e1_w : h' 188 96 = h 188 96) (e2_w : h' 188 98 = h 188 98) (em : ∀ m : Nat, (m : Int) < h 188 98 → h' 188 (169 + 3 * m) = h 188 (169 + 3 * m)) (ec : ∀ c : Nat, (c : Int) < h 188 96 → h' 188 (113 + 14 * c) = h 188 (113 + 14 * c)) : DG h' := by
  refine ⟨fun m hm_w => ?_, fun c hc_w => ?_⟩
  · rw [e2_w] at hm_w
    rw [e1_w]
    have k := hd_w.1 m hm_w
    have e := em m hm_w
    rw [show 95 + (74 + 3 * m) = 169 + 3 * m by omega] at k ⊢
    rw [e]
    exact k
  · rw [e1_w] at hc_w
    have k := hd_w.2 c hc_w
    have e := ec c hc_w
    rw [show 95 + (18 + 14 * c) = 113 + 14 * c by omega] at k ⊢
    rw [e]
    exact k
theorem g_207 : G207 g (evF xs L ck K cW g_M (n + 1)) := fun h a a0_w a1_w => by
  suffices hs : ∃ r h', evF xs L ck K cW g_M (n + 1) 207 [182, a] ((a_g3, g), h) = some (1, r, ((a_g3, g), h')) ∧ r = [h 188 (95 + a.toNat)] ∧ h' = h by
    obtain ⟨r, h', e1_w, rfl, rfl⟩ := hs
    exact e1_w
  refine tr_of gm_207 (B := fun r h' => r = [h 188 (95 + a.toNat)] ∧ h' = h) ?_
  show wS _ _ K bb_207 [182, a] h _
  generalize evF xs L ck K cW g_M n = F
  unfold bb_207
  simp only [wf_4, wf_40, wf_5, wf_50, wf_6, wl_1, wt_1, wu_1, wa_1, wl_4, wt_4, wu_4, wa_4, wl_5, wt_5, wu_5, wa_5, wl_6, wt_6, wu_6, wa_6, wl_9, wt_9, wu_9, wa_9, wl_10, wt_10, wu_10, wa_10, wl_11, wt_11, wu_11, wa_11, wl_13, wt_13, wu_13, wa_13, wl_14, wt_14, wu_14, wa_14, wl_15, wt_15, wu_15, wa_15, wl_16, wt_16, wu_16, wa_16, wl_17, wt_17, wu_17, wa_17, wl_20, wt_20, wu_20, wa_20, wl_21, wt_21, wu_21, wa_21, wl_22, wt_22, wu_22, wa_22, wl_23, wt_23, wu_23, wa_23, wl_24, wt_24, wu_24, wa_24, wl_26, wt_26, wu_26, wa_26, wl_27, wt_27, wu_27, wa_27, wl_28, wt_28, wu_28, wa_28, we_1, we_3, we_10, we_14, we_15, we_16, we_17, we_18, we_20, we_21, we_22, we_24, we_25, we_26, we_27, we_28, we_30, we_31, we_32, wc_20, wc_21, wc_22, wc_24, wc_25, wc_26, wc_27, wc_3, wc_4, wc_7, wc_28, wc_32, ws_1, ws_2, ws_3, ws_4, ws_9, ws_10, ws_11, ws_14, ws_15, ws_16, ws_27, ws_17, ws_20, ws_28, kc_0, kc_1, kn_1, kc_2, kn_2, kc_3, kc_4, kc_5, kc_6, kc_7, kc_8, kc_9, kc_10, kc_12, kc_13, kc_14, kc_16, kc_17, kc_18, kc_19, kc_20, kc_21, kc_22, kc_24, kc_28, kc_30, kc_32, kc_37, kc_40, kc_41, kc_42, kc_43, kc_45, kc_48, kc_56, kc_57, kc_59, kc_60, kc_61, kc_64, kc_73, kc_78, kc_91, kc_95, kc_96, kc_97, kc_98, kc_99, kc_100, kc_112, kc_122, kc_125, kc_126, kc_150, kc_162, kc_163, kc_168, kc_186, kc_190, kc_200, kc_250, kc_255, kc_355, kc_356, kc_404, kc_405, kc_429, kc_573, kc_999, kc_1000, kc_1002, kc_1100, kc_1891, kc_2200, kc_4719, kc_4869, kc_4881, kc_5148, kc_9999, kn_9999, kc_10000, kc_12345, kc_19741, kc_25433, kc_65536, kc_320403, kc_628412, kc_629093, kc_660401, kc_679843, kc_918640, kc_979410, kc_1178088, kc_6232410, kc_24644941, kc_36238189, kc_38270444, kc_392531318, kc_425693491, kc_1103515245, kc_1342154595, kc_2147483648, kc_42328242873, kc_891704255789, kc_1722105685577, kc_1858726030364, ct_0, ct_1, ct_2, ct_3, ct_4, ct_5, cf_0, cf_1, cf_2, cf_3, cf_4, cf_5, w_ty6, w_ty7, m_sv, m_z0, m_hd, m_g0, m_gs, m_s0, m_ss, m_ap, m_an, forall_const, true_and, and_true, ne_eq, not_true_eq_false, not_false_eq_true, false_implies, true_implies, implies_true, eq_self, reduceCtorEq, Nat.reduceDiv, Nat.reduceMod, Int.reduceToNat, or_true, true_or, or_false, false_or, or_self, m_it, m_if, m_c1, m_01, m_02, m_03, m_04, m_10, m_12, m_13, m_14, m_20, m_21, m_23, m_24, m_30, m_31, m_32, m_34, m_40, m_41, m_42, m_43]
  rw [jadd (x := 95) (y := a) (by omega) (by omega), show (95 + a).toNat = 95 + a.toNat by omega]
  exact ⟨⟨by omega, by omega⟩, rfl⟩
end PAR8
/-- a word that may_w be told_w once alone_w -/
def G209 (P : Int × Int) (N : Nat) (g : Nat × Nat) (F : XP) : Prop := ∀ (h : XH) (k : Int), PK P N h → h 182 8 = 0 → h 184 (h 182 7).toNat ≠ 0 → 0 ≤ k → k ≤ 2 → ∃ v h', F 209 [182, k] ((a_g3, g), h) = some (1, [v], ((a_g3, g), h')) ∧ PK P N h' ∧ PF N (fun i => i = 186) h h' ∧ (v ≠ 0 → h' 182 7 = h 182 7 + 1 ∧ h' 182 8 = 0) ∧ (v = 0 → h' 182 8 ≠ 0)
/-- a new_w name_w -/
def G208 (P : Int × Int) (N : Nat) (g : Nat × Nat) (F : XP) : Prop := ∀ (h : XH) (a b c : Int), PK P N h → h 182 8 = 0 → h 184 (h 182 7).toNat ≠ 0 → 0 ≤ a → 0 ≤ b → b ≤ c → a + c ≤ 14 → ∃ h', F 208 [182, a, b, c] ((a_g3, g), h) = some (1, [], ((a_g3, g), h')) ∧ PK P N h' ∧ PF N (fun _ => False) h h' ∧ (h' 182 8 = 0 → b < c)
section PAR9
variable {P : Int × Int} {N : Nat} {g : Nat × Nat} {xs : Nat → Int} {L K n : Nat} {ck : Nat → List Nat} {cW : Nat → Nat → Int} {h h' h1 h2 : XH} {F : XP}
theorem g_209 (c191 : G191 P N g (evF xs L ck K cW g_M n)) (c207 : G207 g (evF xs L ck K cW g_M n)) : G209 P N g (evF xs L ck K cW g_M (n + 1)) := fun h k hp f0_w ht k0_w k2 => by
  suffices hs : ∃ r h', evF xs L ck K cW g_M (n + 1) 209 [182, k] ((a_g3, g), h) = some (1, r, ((a_g3, g), h')) ∧ ∃ v, r = [v] ∧ PK P N h' ∧ PF N (fun i => i = 186) h h' ∧ (v ≠ 0 → h' 182 7 = h 182 7 + 1 ∧ h' 182 8 = 0) ∧ (v = 0 → h' 182 8 ≠ 0) by
    obtain ⟨r, h', e1_w, v, rfl, e2_w⟩ := hs
    exact ⟨v, h', e1_w, e2_w⟩
  refine tr_of gm_209 (B := fun r h' => ∃ v, r = [v] ∧ PK P N h' ∧ PF N (fun i => i = 186) h h' ∧ (v ≠ 0 → h' 182 7 = h 182 7 + 1 ∧ h' 182 8 = 0) ∧ (v = 0 → h' 182 8 ≠ 0)) ?_
  show wS _ _ K bb_209 [182, k] h _
  generalize evF xs L ck K cW g_M n = F at c191 c207 ⊢
  unfold bb_209
  simp only [wf_4, wf_40, wf_5, wf_50, wf_6, wl_1, wt_1, wu_1, wa_1, wl_4, wt_4, wu_4, wa_4, wl_5, wt_5, wu_5, wa_5, wl_6, wt_6, wu_6, wa_6, wl_9, wt_9, wu_9, wa_9, wl_10, wt_10, wu_10, wa_10, wl_11, wt_11, wu_11, wa_11, wl_13, wt_13, wu_13, wa_13, wl_14, wt_14, wu_14, wa_14, wl_15, wt_15, wu_15, wa_15, wl_16, wt_16, wu_16, wa_16, wl_17, wt_17, wu_17, wa_17, wl_20, wt_20, wu_20, wa_20, wl_21, wt_21, wu_21, wa_21, wl_22, wt_22, wu_22, wa_22, wl_23, wt_23, wu_23, wa_23, wl_24, wt_24, wu_24, wa_24, wl_26, wt_26, wu_26, wa_26, wl_27, wt_27, wu_27, wa_27, wl_28, wt_28, wu_28, wa_28, we_1, we_3, we_10, we_14, we_15, we_16, we_17, we_18, we_20, we_21, we_22, we_24, we_25, we_26, we_27, we_28, we_30, we_31, we_32, wc_20, wc_21, wc_22, wc_24, wc_25, wc_26, wc_27, wc_3, wc_4, wc_7, wc_28, wc_32, ws_1, ws_2, ws_3, ws_4, ws_9, ws_10, ws_11, ws_14, ws_15, ws_16, ws_27, ws_17, ws_20, ws_28, kc_0, kc_1, kn_1, kc_2, kn_2, kc_3, kc_4, kc_5, kc_6, kc_7, kc_8, kc_9, kc_10, kc_12, kc_13, kc_14, kc_16, kc_17, kc_18, kc_19, kc_20, kc_21, kc_22, kc_24, kc_28, kc_30, kc_32, kc_37, kc_40, kc_41, kc_42, kc_43, kc_45, kc_48, kc_56, kc_57, kc_59, kc_60, kc_61, kc_64, kc_73, kc_78, kc_91, kc_95, kc_96, kc_97, kc_98, kc_99, kc_100, kc_112, kc_122, kc_125, kc_126, kc_150, kc_162, kc_163, kc_168, kc_186, kc_190, kc_200, kc_250, kc_255, kc_355, kc_356, kc_404, kc_405, kc_429, kc_573, kc_999, kc_1000, kc_1002, kc_1100, kc_1891, kc_2200, kc_4719, kc_4869, kc_4881, kc_5148, kc_9999, kn_9999, kc_10000, kc_12345, kc_19741, kc_25433, kc_65536, kc_320403, kc_628412, kc_629093, kc_660401, kc_679843, kc_918640, kc_979410, kc_1178088, kc_6232410, kc_24644941, kc_36238189, kc_38270444, kc_392531318, kc_425693491, kc_1103515245, kc_1342154595, kc_2147483648, kc_42328242873, kc_891704255789, kc_1722105685577, kc_1858726030364, ct_0, ct_1, ct_2, ct_3, ct_4, ct_5, cf_0, cf_1, cf_2, cf_3, cf_4, cf_5, w_ty6, w_ty7, m_sv, m_z0, m_hd, m_g0, m_gs, m_s0, m_ss, m_ap, m_an, forall_const, true_and, and_true, ne_eq, not_true_eq_false, not_false_eq_true, false_implies, true_implies, implies_true, eq_self, reduceCtorEq, Nat.reduceDiv, Nat.reduceMod, Int.reduceToNat, or_true, true_or, or_false, false_or, or_self, m_it, m_if, m_c1, m_01, m_02, m_03, m_04, m_10, m_12, m_13, m_14, m_20, m_21, m_23, m_24, m_30, m_31, m_32, m_34, m_40, m_41, m_42, m_43]
  refine ⟨_, h, c207 h 91 (by decide) (by decide), fun _ => ?_, fun _ => ⟨⟨by decide, by decide⟩, ?_⟩⟩
  · obtain ⟨h1, e1_w, e2_w, e3_w, e4_w, -⟩ := c191 h 3 hp (by decide) (by decide)
    exact ⟨[], h1, e1_w, 0, rfl, hp.pa e2_w, e2_w.pf, fun z => absurd rfl z, fun _ => e4_w⟩
  · generalize hw : j_iop 4 (h 188 186) (j_iop 6 1 k) = w
    have hin : InI w := by
      rw [← hw]
      exact iop_in 4 _ _
    have q1_w : QK P (r_T 0) (RJ P) (j_up h 188 186 w) := dw_QK hp.1 (ht_up hp.1.1 (by decide) hin) (Or.inl ⟨rfl, by decide⟩) (g_fit_ok (lo_w := 186) (hi_w := 187) (t := (1, (-2147483648), 2147483647)) (by decide +kernel) (by decide) (by decide) (IV.top hin))
    have e1_w : PF N (fun i => i = 186) h (j_up h 188 186 w) := ⟨fun o i e e2_w e3_w => up_ne (fun z => e2_w z.1 z.2), by rw [up_ne (fun z => absurd z.1 (by decide))]; exact hp.2.1.1, by rw [up_ne (fun z => absurd z.1 (by decide))]; exact ht_fld hp.1 rfl, fun _ => up_ne (fun z => absurd z.1 (by decide)), by rw [up_ne (fun z => absurd z.1 (by decide))]; exact Int.le_refl _, by rw [up_ne (fun z => absurd z.1 (by decide))]; exact hp.2.1.2.2.1⟩
    have p1_w : PK P N (j_up h 188 186 w) := ⟨q1_w, e1_w.pt hp.2.1, DG.up hp.1 hp.2.2 (up_ne (fun z => absurd z.2 (by decide))) (up_ne (fun z => absurd z.2 (by decide))) (fun m _ => up_ne (fun z => by have := z.2; omega)) (fun m _ => up_ne (fun z => by have := z.2; omega))⟩
    have e7_w : j_up h 188 186 w 182 7 = h 182 7 := up_ne (fun z => absurd z.1 (by decide))
    have e8 : j_up h 188 186 w 182 8 = h 182 8 := up_ne (fun z => absurd z.1 (by decide))
    have t1_w : j_up h 188 186 w 184 (j_up h 188 186 w 182 7).toNat ≠ 0 := by
      rw [e7_w, up_ne (fun z => absurd z.1 (by decide))]
      exact ht
    have n1_w := PA.next p1_w t1_w
    rw [jat p1_w]
    exact ⟨1, rfl, p1_w.pa n1_w, e1_w.tr n1_w.pf, fun _ => ⟨by rw [up_eq, e7_w], by rw [up_ne (fun z => absurd z.2 (by decide)), e8]; exact f0_w⟩, fun z => absurd z (by decide)⟩
end PAR9
end
section
/-! ===== the reference's parser: a new_w name_w ===== -/
section PARA
variable {P : Int × Int} {N : Nat} {g : Nat × Nat} {xs : Nat → Int} {L K n : Nat} {ck : Nat → List Nat} {cW : Nat → Nat → Int} {h h' h1 h2 : XH} {F : XP}
/-- the name_w is_w laid_w down_w, and one goes_w on_w -/
theorem nm_QK (hp : PK P N h) (ht : h 184 (h 182 7).toNat ≠ 0) {i : Nat} (hi_w : 14 ≤ i) : PK P N (atp (j_up h 190 i (h 186 (h 182 7).toNat))) ∧ PF N (fun _ => False) h (atp (j_up h 190 i (h 186 (h 182 7).toNat))) := by
  have hl : InL (h 186 (h 182 7).toNat) := ht_long hp.1.1 (by decide) _
  generalize h 186 (h 182 7).toNat = v at hl ⊢
  have q1_w : QK P (r_T 0) (RJ P) (j_up h 190 i v) := dw_QK hp.1 (ht_upL hp.1.1 (by decide) hl) (Or.inr (Or.inr (Or.inl rfl))) (fun r hr _ _ => IV.sub (List.all_eq_true.mp (show (r_A 190).2.2.all (fun r => i_sub (2, (-9223372036854775808), 9223372036854775807) r.2.2) = true by decide +kernel) r hr) (IV.topL hl))
  have e1_w : PF N (fun _ => False) h (j_up h 190 i v) := ⟨fun o k e e2_w e3_w => up_ne (fun z => by have := e3_w z.1; omega), by rw [up_ne (fun z => absurd z.1 (by decide))]; exact hp.2.1.1, by rw [up_ne (fun z => absurd z.1 (by decide))]; exact ht_fld hp.1 rfl, fun _ => up_ne (fun z => absurd z.1 (by decide)), by rw [up_ne (fun z => absurd z.1 (by decide))]; exact Int.le_refl _, by rw [up_ne (fun z => absurd z.1 (by decide))]; exact hp.2.1.2.2.1⟩
  have p1_w : PK P N (j_up h 190 i v) := ⟨q1_w, e1_w.pt hp.2.1, DG.up hp.1 hp.2.2 (up_ne (fun z => absurd z.1 (by decide))) (up_ne (fun z => absurd z.1 (by decide))) (fun m _ => up_ne (fun z => absurd z.1 (by decide))) (fun m _ => up_ne (fun z => absurd z.1 (by decide)))⟩
  have t1_w : j_up h 190 i v 184 (j_up h 190 i v 182 7).toNat ≠ 0 := by
    rw [up_ne (fun z => absurd z.1 (by decide)), up_ne (fun z => absurd z.1 (by decide))]
    exact ht
  have n1_w := PA.next p1_w t1_w
  exact ⟨p1_w.pa n1_w, e1_w.tr n1_w.pf⟩
def B208 (P : Int × Int) (N : Nat) (h : XH) (b c : Int) (r : List Int) (h' : XH) : Prop := r = [] ∧ PK P N h' ∧ PF N (fun _ => False) h h' ∧ (h' 182 8 = 0 → b < c)
theorem g_208 (c191 : G191 P N g (evF xs L ck K cW g_M n)) (c203 : G203 P N g (evF xs L ck K cW g_M n)) (c204 : G204 P N g (evF xs L ck K cW g_M n)) (c207 : G207 g (evF xs L ck K cW g_M n)) : G208 P N g (evF xs L ck K cW g_M (n + 1)) := fun h a b c hp f0_w ht a0_w b0 bc ac => by
  suffices hs : ∃ r h', evF xs L ck K cW g_M (n + 1) 208 [182, a, b, c] ((a_g3, g), h) = some (1, r, ((a_g3, g), h')) ∧ B208 P N h b c r h' by
    obtain ⟨r, h', e1_w, rfl, e2_w⟩ := hs
    exact ⟨h', e1_w, e2_w⟩
  refine tr_of gm_208 ?_
  show wS _ _ K bb_208 [182, a, b, c] h _
  generalize evF xs L ck K cW g_M n = F at c191 c203 c204 c207 ⊢
  unfold bb_208
  simp only [wf_4, wf_40, wf_5, wf_50, wf_6, wl_1, wt_1, wu_1, wa_1, wl_4, wt_4, wu_4, wa_4, wl_5, wt_5, wu_5, wa_5, wl_6, wt_6, wu_6, wa_6, wl_9, wt_9, wu_9, wa_9, wl_10, wt_10, wu_10, wa_10, wl_11, wt_11, wu_11, wa_11, wl_13, wt_13, wu_13, wa_13, wl_14, wt_14, wu_14, wa_14, wl_15, wt_15, wu_15, wa_15, wl_16, wt_16, wu_16, wa_16, wl_17, wt_17, wu_17, wa_17, wl_20, wt_20, wu_20, wa_20, wl_21, wt_21, wu_21, wa_21, wl_22, wt_22, wu_22, wa_22, wl_23, wt_23, wu_23, wa_23, wl_24, wt_24, wu_24, wa_24, wl_26, wt_26, wu_26, wa_26, wl_27, wt_27, wu_27, wa_27, wl_28, wt_28, wu_28, wa_28, we_1, we_3, we_10, we_14, we_15, we_16, we_17, we_18, we_20, we_21, we_22, we_24, we_25, we_26, we_27, we_28, we_30, we_31, we_32, wc_20, wc_21, wc_22, wc_24, wc_25, wc_26, wc_27, wc_3, wc_4, wc_7, wc_28, wc_32, ws_1, ws_2, ws_3, ws_4, ws_9, ws_10, ws_11, ws_14, ws_15, ws_16, ws_27, ws_17, ws_20, ws_28, kc_0, kc_1, kn_1, kc_2, kn_2, kc_3, kc_4, kc_5, kc_6, kc_7, kc_8, kc_9, kc_10, kc_12, kc_13, kc_14, kc_16, kc_17, kc_18, kc_19, kc_20, kc_21, kc_22, kc_24, kc_28, kc_30, kc_32, kc_37, kc_40, kc_41, kc_42, kc_43, kc_45, kc_48, kc_56, kc_57, kc_59, kc_60, kc_61, kc_64, kc_73, kc_78, kc_91, kc_95, kc_96, kc_97, kc_98, kc_99, kc_100, kc_112, kc_122, kc_125, kc_126, kc_150, kc_162, kc_163, kc_168, kc_186, kc_190, kc_200, kc_250, kc_255, kc_355, kc_356, kc_404, kc_405, kc_429, kc_573, kc_999, kc_1000, kc_1002, kc_1100, kc_1891, kc_2200, kc_4719, kc_4869, kc_4881, kc_5148, kc_9999, kn_9999, kc_10000, kc_12345, kc_19741, kc_25433, kc_65536, kc_320403, kc_628412, kc_629093, kc_660401, kc_679843, kc_918640, kc_979410, kc_1178088, kc_6232410, kc_24644941, kc_36238189, kc_38270444, kc_392531318, kc_425693491, kc_1103515245, kc_1342154595, kc_2147483648, kc_42328242873, kc_891704255789, kc_1722105685577, kc_1858726030364, ct_0, ct_1, ct_2, ct_3, ct_4, ct_5, cf_0, cf_1, cf_2, cf_3, cf_4, cf_5, w_ty6, w_ty7, m_sv, m_z0, m_hd, m_g0, m_gs, m_s0, m_ss, m_ap, m_an, forall_const, true_and, and_true, ne_eq, not_true_eq_false, not_false_eq_true, false_implies, true_implies, implies_true, eq_self, reduceCtorEq, Nat.reduceDiv, Nat.reduceMod, Int.reduceToNat, or_true, true_or, or_false, false_or, or_self, m_it, m_if, m_c1, m_01, m_02, m_03, m_04, m_10, m_12, m_13, m_14, m_20, m_21, m_23, m_24, m_30, m_31, m_32, m_34, m_40, m_41, m_42, m_43]
  rw [jat hp]
  have n1_w := PA.next hp ht
  have hpa : PK P N (atp h) := hp.pa n1_w
  have fa : atp h 182 8 = 0 := atp_8.trans f0_w
  have ba_w : 0 ≤ h 182 7 ∧ h 182 7 < 1002 := by
    have t2_w := hp.2.1.2.1
    have t3_w := hp.2.1.2.2.1
    have t4_w := hp.2.1.2.2.2.1
    exact ⟨t2_w, by omega⟩
  -- a fault
  have bad_w : ∀ {w : Int} {h2 : XH} {X : Prop}, PA N (atp h) h2 → h2 182 8 ≠ 0 → (h2 182 8 = 0 → X) ∧ (¬h2 182 8 = 0 → B208 P N h b c [] h2) := fun e2_w e4_w => ⟨fun z => absurd z e4_w, fun _ => ⟨rfl, hpa.pa e2_w, (n1_w.pf).tr e2_w.pf, fun z => absurd z e4_w⟩⟩
  refine ⟨fun _ => ?_, fun hbc => ?_⟩
  · obtain ⟨h1, e1_w, e2_w, e3_w, e4_w, -⟩ := c191 h 5 hp (by decide) (by decide)
    exact ⟨[], h1, e1_w, rfl, hp.pa e2_w, e2_w.pf, fun z => absurd z e4_w⟩
  have ji : j_iop 0 (j_iop 0 14 a) b = 14 + a + b := by
    rw [jadd (x := 14) (y := a) (by omega) (by omega), jadd (by omega) (by omega)]
  rw [ji]
  obtain ⟨v, d1_w, d2_w, d3_w⟩ := c203 (atp h) hpa
  have r1_w : 0 ≤ h 188 96 ∧ h 188 96 ≤ 4 := by
    have k : IV P (1, 0, 4) (h 188 96) := q_cell hp.1 (q := 188) (r := 26) (x := (96, 97, (1, 0, 4))) (by decide) rfl rfl (by decide) (by decide)
    exact ⟨k.1, k.2.1⟩
  have r2 : 0 ≤ h 188 97 ∧ h 188 97 ≤ 4 := by
    have k : IV P (1, 0, 4) (h 188 97) := q_cell hp.1 (q := 188) (r := 27) (x := (97, 98, (1, 0, 4))) (by decide) rfl rfl (by decide) (by decide)
    exact ⟨k.1, k.2.1⟩
  have r3 : 0 ≤ h 188 98 ∧ h 188 98 ≤ 6 := by
    have k : IV P (1, 0, 6) (h 188 98) := q_cell hp.1 (q := 188) (r := 28) (x := (98, 99, (1, 0, 6))) (by decide) rfl rfl (by decide) (by decide)
    exact ⟨k.1, k.2.1⟩
  have a188 : ∀ i, atp h 188 i = h 188 i := fun i => up_ne (fun z => absurd z.1 (by decide))
  rw [← a188] at r1_w r2 r3
  obtain ⟨h3, x1_w, x2_w, x3, x4_w, -⟩ := c191 (atp h) 3 hpa (by decide) (by decide)
  obtain ⟨u1, y1, -⟩ := c204 (atp h) 14 _ hpa (by decide) r1_w.1 (by omega)
  obtain ⟨u2_w, y2, -⟩ := c204 (atp h) 18 _ hpa (by decide) r2.1 (by omega)
  obtain ⟨u3, y3, -⟩ := c204 (atp h) 22 _ hpa (by decide) r3.1 (by omega)
  refine ⟨[v], _, d1_w, fun k => ⟨_, _, c207 (atp h) 1 (by decide) (by decide), [u1], _, y1, fun _ => ⟨[], h3, x1_w, bad_w (w := 0) x2_w x4_w⟩, fun _ => ⟨_, _, c207 (atp h) 2 (by decide) (by decide), [u2_w], _, y2, fun _ => ⟨[], h3, x1_w, bad_w (w := 0) x2_w x4_w⟩, fun _ => ⟨_, _, c207 (atp h) 3 (by decide) (by decide), [u3], _, y3, fun _ => ⟨[], h3, x1_w, bad_w (w := 0) x2_w x4_w⟩, fun _ => ⟨fun _ => ?_, fun z => absurd fa z⟩⟩⟩⟩, fun k => ?_⟩
  · have tt := d3_w.mp k
    have b2 : 0 ≤ atp h 182 7 ∧ atp h 182 7 < 1002 := by
      have t2_w := hpa.2.1.2.1
      have t3_w := hpa.2.1.2.2.1
      have t4_w := hpa.2.1.2.2.2.1
      exact ⟨t2_w, by omega⟩
    obtain ⟨z1, z2⟩ := nm_QK hpa (i := (14 + a + b).toNat) (by rw [tt.2.1]; decide) (by omega)
    refine ⟨b2, ⟨by omega, by omega⟩, ?_⟩
    have e7_w : j_iop 0 (j_up (atp h) 190 (14 + a + b).toNat (atp h 186 (atp h 182 7).toNat) 182 7) 1 = j_up (atp h) 190 (14 + a + b).toNat (atp h 186 (atp h 182 7).toNat) 182 7 + 1 := by
      rw [up_ne (fun z => absurd z.1 (by decide))]
      exact jat hpa
    show B208 P N h b c [] _
    exact (congrArg (fun w => B208 P N h b c [] (j_up (j_up (atp h) 190 (14 + a + b).toNat (atp h 186 (atp h 182 7).toNat)) 182 7 w)) e7_w).mpr ⟨rfl, z1, n1_w.pf.tr z2, fun _ => by omega⟩
  · obtain ⟨h4, x1_w, x2_w, x3, x4_w, -⟩ := c191 (atp h) 1 hpa (by decide) (by decide)
    exact ⟨[], h4, x1_w, bad_w (w := 0) x2_w x4_w⟩
end PARA
end
section
/-! ===== the reference's parser: one to twelve_w numbers_w ===== -/
def RowOK (P : Int × Int) (h : XH) (a m : Int) : Prop := 95 ≤ a ∧ a ≤ 178 ∧ 0 ≤ m ∧ m ≤ 9999 ∧ (∀ (i : Nat) (v : Int), a ≤ (i : Int) → (i : Int) < a + 12 → 0 ≤ v → v ≤ m → ∀ r ∈ (r_A 188).2.2, r.1 ≤ i → i < r.2.1 → IV P r.2.2 v) ∧ (∀ i : Nat, a ≤ (i : Int) → (i : Int) < a + 12 → i ≠ 96 ∧ i ≠ 98 ∧ (∀ k : Nat, i ≠ 169 + 3 * k ∨ h 188 98 ≤ (k : Int)) ∧ ∀ k : Nat, i ≠ 113 + 14 * k ∨ h 188 96 ≤ (k : Int))
def WR12 (a : Int) (i : Nat) : Prop := a ≤ (i : Int) ∧ (i : Int) < a + 12
def G211 (P : Int × Int) (N : Nat) (g : Nat × Nat) (F : XP) : Prop := ∀ (h : XH) (a m : Int), PK P N h → h 182 8 = 0 → RowOK P h a m → ∃ v h', F 211 [182, a, m] ((a_g3, g), h) = some (1, [v], ((a_g3, g), h')) ∧ PK P N h' ∧ PF N (WR12 a) h h' ∧ InI v ∧ (h' 182 8 = 0 → 1 ≤ v ∧ v ≤ 12)
section PARB
variable {P : Int × Int} {N : Nat} {g : Nat × Nat} {xs : Nat → Int} {L K n : Nat} {ck : Nat → List Nat} {cW : Nat → Nat → Int} {h h' h1 h2 : XH} {F : XP}
theorem pf_same {W : Nat → Prop} {o k : Nat} (a : PF N W h h') (h1 : o ≠ 182) (h2 : o ≠ 188) (h3 : o ≠ 190) : h' o k = h o k := a.1 o k (fun z => absurd z h1) (fun z => absurd z h2) (fun z => absurd z h3)
theorem pf_g {W : Nat → Prop} {k : Nat} (a : PF N W h h') (h1 : ¬W k) : h' 188 k = h 188 k := a.1 188 k (fun z => absurd z (by decide)) (fun _ => h1) (fun z => absurd z (by decide))
/-- a cell_w of a row is_w drafted -/
theorem rw_QK (hp : PK P N h) {a m v : Int} {i : Nat} (hr : RowOK P h a m) (hi_w : WR12 a i) (v0_w : 0 ≤ v) (v1_w : v ≤ m) : PK P N (j_up h 188 i v) ∧ PF N (WR12 a) h (j_up h 188 i v) := by
  obtain ⟨r1_w, r2, r3, r4, r5_w, r6⟩ := hr
  obtain ⟨s1_w, s2_w, s3_w, s4_w⟩ := r6 i hi_w.1 hi_w.2
  have hi1 := hi_w.1
  have q1_w : QK P (r_T 0) (RJ P) (j_up h 188 i v) := dw_QK hp.1 (ht_up hp.1.1 (by decide) ⟨by omega, by omega⟩) (Or.inl ⟨rfl, by omega⟩) (r5_w i v hi_w.1 hi_w.2 v0_w v1_w)
  have e1_w : PF N (WR12 a) h (j_up h 188 i v) := ⟨fun o k e e2_w e3_w => up_ne (fun z => e2_w z.1 (by rw [z.2]; exact hi_w)), by rw [up_ne (fun z => absurd z.1 (by decide))]; exact hp.2.1.1, by rw [up_ne (fun z => absurd z.1 (by decide))]; exact ht_fld hp.1 rfl, fun _ => up_ne (fun z => absurd z.1 (by decide)), by rw [up_ne (fun z => absurd z.1 (by decide))]; exact Int.le_refl _, by rw [up_ne (fun z => absurd z.1 (by decide))]; exact hp.2.1.2.2.1⟩
  exact ⟨⟨q1_w, e1_w.pt hp.2.1, DG.up hp.1 hp.2.2 (up_ne (fun z => s1_w z.2.symm)) (up_ne (fun z => s2_w z.2.symm)) (fun k hk => up_ne (fun z => by have := s3_w k; have := z.2; omega)) (fun k hk => up_ne (fun z => by have := s4_w k; have := z.2; omega))⟩, e1_w⟩
theorem RowOK.pf {a m : Int} (hr : RowOK P h a m) (e : PF N (WR12 a) h h') : RowOK P h' a m := by
  obtain ⟨r1_w, r2, r3, r4, r5_w, r6⟩ := hr
  refine ⟨r1_w, r2, r3, r4, r5_w, fun i h1 h2 => ?_⟩
  have e96 : h' 188 96 = h 188 96 := pf_g e (fun z => absurd rfl (r6 96 z.1 z.2).1)
  have e98_w : h' 188 98 = h 188 98 := pf_g e (fun z => absurd rfl (r6 98 z.1 z.2).2.1)
  rw [e96, e98_w]
  exact r6 i h1 h2
def B211 (P : Int × Int) (N : Nat) (h : XH) (a : Int) (r : List Int) (h' : XH) : Prop := ∃ v, r = [v] ∧ PK P N h' ∧ PF N (WR12 a) h h' ∧ InI v ∧ (h' 182 8 = 0 → 1 ≤ v ∧ v ≤ 12)
theorem g_211 (hK_w : 4294967300 ≤ K) (c191 : G191 P N g (evF xs L ck K cW g_M n)) (c200 : G200 P N g (evF xs L ck K cW g_M n)) : G211 P N g (evF xs L ck K cW g_M (n + 1)) := fun h a m hp f0_w hr => by
  suffices hs : ∃ r h', evF xs L ck K cW g_M (n + 1) 211 [182, a, m] ((a_g3, g), h) = some (1, r, ((a_g3, g), h')) ∧ B211 P N h a r h' by
    obtain ⟨r, h', e1_w, v, rfl, e2_w⟩ := hs
    exact ⟨v, h', e1_w, e2_w⟩
  refine tr_of gm_211 ?_
  show wS _ _ K bb_211 [182, a, m, 0, 0] h _
  generalize evF xs L ck K cW g_M n = F at c191 c200 ⊢
  unfold bb_211
  simp only [wf_4, wf_40, wf_5, wf_50, wf_6, wl_1, wt_1, wu_1, wa_1, wl_4, wt_4, wu_4, wa_4, wl_5, wt_5, wu_5, wa_5, wl_6, wt_6, wu_6, wa_6, wl_9, wt_9, wu_9, wa_9, wl_10, wt_10, wu_10, wa_10, wl_11, wt_11, wu_11, wa_11, wl_13, wt_13, wu_13, wa_13, wl_14, wt_14, wu_14, wa_14, wl_15, wt_15, wu_15, wa_15, wl_16, wt_16, wu_16, wa_16, wl_17, wt_17, wu_17, wa_17, wl_20, wt_20, wu_20, wa_20, wl_21, wt_21, wu_21, wa_21, wl_22, wt_22, wu_22, wa_22, wl_23, wt_23, wu_23, wa_23, wl_24, wt_24, wu_24, wa_24, wl_26, wt_26, wu_26, wa_26, wl_27, wt_27, wu_27, wa_27, wl_28, wt_28, wu_28, wa_28, we_1, we_3, we_10, we_14, we_15, we_16, we_17, we_18, we_20, we_21, we_22, we_24, we_25, we_26, we_27, we_28, we_30, we_31, we_32, wc_20, wc_21, wc_22, wc_24, wc_25, wc_26, wc_27, wc_3, wc_4, wc_7, wc_28, wc_32, ws_1, ws_2, ws_3, ws_4, ws_9, ws_10, ws_11, ws_14, ws_15, ws_16, ws_27, ws_17, ws_20, ws_28, kc_0, kc_1, kn_1, kc_2, kn_2, kc_3, kc_4, kc_5, kc_6, kc_7, kc_8, kc_9, kc_10, kc_12, kc_13, kc_14, kc_16, kc_17, kc_18, kc_19, kc_20, kc_21, kc_22, kc_24, kc_28, kc_30, kc_32, kc_37, kc_40, kc_41, kc_42, kc_43, kc_45, kc_48, kc_56, kc_57, kc_59, kc_60, kc_61, kc_64, kc_73, kc_78, kc_91, kc_95, kc_96, kc_97, kc_98, kc_99, kc_100, kc_112, kc_122, kc_125, kc_126, kc_150, kc_162, kc_163, kc_168, kc_186, kc_190, kc_200, kc_250, kc_255, kc_355, kc_356, kc_404, kc_405, kc_429, kc_573, kc_999, kc_1000, kc_1002, kc_1100, kc_1891, kc_2200, kc_4719, kc_4869, kc_4881, kc_5148, kc_9999, kn_9999, kc_10000, kc_12345, kc_19741, kc_25433, kc_65536, kc_320403, kc_628412, kc_629093, kc_660401, kc_679843, kc_918640, kc_979410, kc_1178088, kc_6232410, kc_24644941, kc_36238189, kc_38270444, kc_392531318, kc_425693491, kc_1103515245, kc_1342154595, kc_2147483648, kc_42328242873, kc_891704255789, kc_1722105685577, kc_1858726030364, ct_0, ct_1, ct_2, ct_3, ct_4, ct_5, cf_0, cf_1, cf_2, cf_3, cf_4, cf_5, w_ty6, w_ty7, m_sv, m_z0, m_hd, m_g0, m_gs, m_s0, m_ss, m_ap, m_an, forall_const, true_and, and_true, ne_eq, not_true_eq_false, not_false_eq_true, false_implies, true_implies, implies_true, eq_self, reduceCtorEq, Nat.reduceDiv, Nat.reduceMod, Int.reduceToNat, or_true, true_or, or_false, false_or, or_self, m_it, m_if, m_c1, m_01, m_02, m_03, m_04, m_10, m_12, m_13, m_14, m_20, m_21, m_23, m_24, m_30, m_31, m_32, m_34, m_40, m_41, m_42, m_43]
  refine w_dp (fun en h' => (∃ k w : Int, en = [182, a, m, k, w] ∧ 0 ≤ k ∧ k ≤ 12) ∧ PK P N h' ∧ h' 182 8 = 0 ∧ PF N (WR12 a) h h') (fun _ h' => ((N : Int) - h' 182 7).toNat) ⟨⟨0, 0, rfl, by decide, by decide⟩, hp, f0_w, (PA.rf hp).pf⟩ ?_
  rintro en h1 ⟨⟨k, w, rfl, k0_w, k1_w⟩, hp1, f1_w, e1_w⟩
  refine ⟨?_, ?_⟩
  · show ((N : Int) - h1 182 7).toNat < K
    have n1_w := hp.2.1.2.2.2.1
    have n2_w := hp1.2.1.2.1
    omega
  have hr1 := hr.pf e1_w
  simp only [wf_4, wf_40, wf_5, wf_50, wf_6, wl_1, wt_1, wu_1, wa_1, wl_4, wt_4, wu_4, wa_4, wl_5, wt_5, wu_5, wa_5, wl_6, wt_6, wu_6, wa_6, wl_9, wt_9, wu_9, wa_9, wl_10, wt_10, wu_10, wa_10, wl_11, wt_11, wu_11, wa_11, wl_13, wt_13, wu_13, wa_13, wl_14, wt_14, wu_14, wa_14, wl_15, wt_15, wu_15, wa_15, wl_16, wt_16, wu_16, wa_16, wl_17, wt_17, wu_17, wa_17, wl_20, wt_20, wu_20, wa_20, wl_21, wt_21, wu_21, wa_21, wl_22, wt_22, wu_22, wa_22, wl_23, wt_23, wu_23, wa_23, wl_24, wt_24, wu_24, wa_24, wl_26, wt_26, wu_26, wa_26, wl_27, wt_27, wu_27, wa_27, wl_28, wt_28, wu_28, wa_28, we_1, we_3, we_10, we_14, we_15, we_16, we_17, we_18, we_20, we_21, we_22, we_24, we_25, we_26, we_27, we_28, we_30, we_31, we_32, wc_20, wc_21, wc_22, wc_24, wc_25, wc_26, wc_27, wc_3, wc_4, wc_7, wc_28, wc_32, ws_1, ws_2, ws_3, ws_4, ws_9, ws_10, ws_11, ws_14, ws_15, ws_16, ws_27, ws_17, ws_20, ws_28, kc_0, kc_1, kn_1, kc_2, kn_2, kc_3, kc_4, kc_5, kc_6, kc_7, kc_8, kc_9, kc_10, kc_12, kc_13, kc_14, kc_16, kc_17, kc_18, kc_19, kc_20, kc_21, kc_22, kc_24, kc_28, kc_30, kc_32, kc_37, kc_40, kc_41, kc_42, kc_43, kc_45, kc_48, kc_56, kc_57, kc_59, kc_60, kc_61, kc_64, kc_73, kc_78, kc_91, kc_95, kc_96, kc_97, kc_98, kc_99, kc_100, kc_112, kc_122, kc_125, kc_126, kc_150, kc_162, kc_163, kc_168, kc_186, kc_190, kc_200, kc_250, kc_255, kc_355, kc_356, kc_404, kc_405, kc_429, kc_573, kc_999, kc_1000, kc_1002, kc_1100, kc_1891, kc_2200, kc_4719, kc_4869, kc_4881, kc_5148, kc_9999, kn_9999, kc_10000, kc_12345, kc_19741, kc_25433, kc_65536, kc_320403, kc_628412, kc_629093, kc_660401, kc_679843, kc_918640, kc_979410, kc_1178088, kc_6232410, kc_24644941, kc_36238189, kc_38270444, kc_392531318, kc_425693491, kc_1103515245, kc_1342154595, kc_2147483648, kc_42328242873, kc_891704255789, kc_1722105685577, kc_1858726030364, ct_0, ct_1, ct_2, ct_3, ct_4, ct_5, cf_0, cf_1, cf_2, cf_3, cf_4, cf_5, w_ty6, w_ty7, m_sv, m_z0, m_hd, m_g0, m_gs, m_s0, m_ss, m_ap, m_an, forall_const, true_and, and_true, ne_eq, not_true_eq_false, not_false_eq_true, false_implies, true_implies, implies_true, eq_self, reduceCtorEq, Nat.reduceDiv, Nat.reduceMod, Int.reduceToNat, or_true, true_or, or_false, false_or, or_self, m_it, m_if, m_c1, m_01, m_02, m_03, m_04, m_10, m_12, m_13, m_14, m_20, m_21, m_23, m_24, m_30, m_31, m_32, m_34, m_40, m_41, m_42, m_43]
  obtain ⟨r1_w, r2, r3, r4, -, -⟩ := id hr
  have ink : InI k := ⟨by omega, by omega⟩
  obtain ⟨v, h2, x1_w, pa, iv_w, ok, ko⟩ := c200 h1 0 m hp1 ⟨by decide, by decide⟩ ⟨by omega, by omega⟩
  have p2_w : PK P N h2 := hp1.pa pa
  refine ⟨[v], h2, x1_w, fun z0 => ?_, fun z => ⟨fun y => absurd y z, fun _ => ⟨fun y => absurd y z, fun _ => ⟨k, rfl, p2_w, e1_w.tr pa.pf, ink, fun y => absurd y z⟩⟩⟩⟩
  obtain ⟨v0_w, v1_w, e2_w, -, hs, -⟩ := ok z0
  refine ⟨fun kk => ?_, fun kk => ⟨fun _ => ?_, fun y => absurd z0 y⟩⟩
  · have back : j_up h2 182 7 (j_iop 1 (h2 182 7) 1) = h1 := by
      rw [e2_w, show atp h1 182 7 = h1 182 7 + 1 from up_eq, jsub (by have := hp1.2.1.2.1; have := hp1.2.1.2.2.1; have := hp1.2.1.2.2.2.1; omega) (by have := hp1.2.1.2.1; have := hp1.2.1.2.2.1; have := hp1.2.1.2.2.2.1; omega), show h1 182 7 + 1 - 1 = h1 182 7 by omega]
      refine funext fun o => funext fun i => ?_
      by_cases e : o = 182 ∧ i = 7
      · obtain ⟨rfl, rfl⟩ := e
        exact up_eq
      · rw [up_ne e]
        exact up_ne e
    rw [back]
    obtain ⟨h3, y1, y2, y3, y4, -⟩ := c191 h1 5 hp1 (by decide) (by decide)
    exact ⟨[], h3, y1, fun y => absurd y y4, fun _ => ⟨fun y => absurd y y4, fun _ => ⟨k, rfl, hp1.pa y2, e1_w.tr y2.pf, ink, fun y => absurd y y4⟩⟩⟩
  · rw [jadd (x := a) (y := k) (by omega) (by omega), j32_in (v := k + 1) ⟨by omega, by omega⟩]
    obtain ⟨q1_w, q2_w⟩ := rw_QK p2_w (hr1.pf pa.pf) (i := (a + k).toNat) ⟨by omega, by omega⟩ v0_w v1_w
    have w7_w : j_up h2 188 (a + k).toNat v 182 7 = h1 182 7 + 1 := by
      rw [up_ne (fun z => absurd z.1 (by decide)), e2_w]
      exact up_eq
    have w8 : j_up h2 188 (a + k).toNat v 182 8 = 0 := by
      rw [up_ne (fun z => absurd z.1 (by decide))]
      exact z0
    have n0_w := q1_w.2.1.2.2.1
    have n1_w := q1_w.2.1.2.2.2.1
    have n2_w := hp1.2.1.2.1
    rw [w7_w] at n0_w
    refine ⟨⟨by omega, by omega⟩, fun _ => ⟨⟨?_, ?_⟩, fun _ => ⟨⟨⟨k + 1, v, rfl, by omega, by omega⟩, q1_w, w8, e1_w.tr (pa.pf.tr q2_w)⟩, ?_⟩, fun _ => ⟨k + 1, rfl, q1_w, e1_w.tr (pa.pf.tr q2_w), ⟨by omega, by omega⟩, fun _ => ⟨by omega, by omega⟩⟩⟩, fun y => absurd w8 y⟩
    · show 0 ≤ j_up h2 188 (a + k).toNat v 182 7
      rw [w7_w]
      omega
    · show j_up h2 188 (a + k).toNat v 182 7 < 1002
      rw [w7_w]
      omega
    · show ((N : Int) - j_up h2 188 (a + k).toNat v 182 7).toNat < ((N : Int) - h1 182 7).toNat
      rw [w7_w]
      omega
end PARB
end
section
/-! ===== the reference's parser: a class ===== -/
def NL (i : Nat) : Prop := i ≠ 99
def B212 (P : Int × Int) (N : Nat) (h : XH) (r : List Int) (h' : XH) : Prop := r = [] ∧ PK P N h' ∧ PF N NL h h'
def G212 (f : Nat) (P : Int × Int) (N : Nat) (g : Nat × Nat) (F : XP) : Prop := ∀ (h : XH), PK P N h → h 182 8 = 0 → h 184 (h 182 7).toNat ≠ 0 → ∃ h', F f [182] ((a_g3, g), h) = some (1, [], ((a_g3, g), h')) ∧ PK P N h' ∧ PF N NL h h'
theorem fit_c : ∀ m : Nat, m < 4 → g_fit (112 + 14 * m) (113 + 14 * m) (1, 0, 999) = true ∧ g_fit (113 + 14 * m) (114 + 14 * m) (1, 0, 12) = true ∧ g_fit (114 + 14 * m) (126 + 14 * m) (1, 0, 99) = true := by decide +kernel
theorem fit_m : ∀ m : Nat, m < 6 → g_fit (168 + 3 * m) (171 + 3 * m) (1, 0, 3) = true := by decide +kernel
section PARC
variable {P : Int × Int} {N : Nat} {g : Nat × Nat} {xs : Nat → Int} {L K n : Nat} {ck : Nat → List Nat} {cW : Nat → Nat → Int} {h h' h1 h2 : XH} {F : XP}
theorem r_96 (hQ : QK P (r_T 0) (RJ P) h) : 0 ≤ h 188 96 ∧ h 188 96 ≤ 4 := by
  have k : IV P (1, 0, 4) (h 188 96) := q_cell hQ (q := 188) (r := 26) (x := (96, 97, (1, 0, 4))) (by decide) rfl rfl (by decide) (by decide)
  exact ⟨k.1, k.2.1⟩
theorem r_97 (hQ : QK P (r_T 0) (RJ P) h) : 0 ≤ h 188 97 ∧ h 188 97 ≤ 4 := by
  have k : IV P (1, 0, 4) (h 188 97) := q_cell hQ (q := 188) (r := 27) (x := (97, 98, (1, 0, 4))) (by decide) rfl rfl (by decide) (by decide)
  exact ⟨k.1, k.2.1⟩
theorem r_98 (hQ : QK P (r_T 0) (RJ P) h) : 0 ≤ h 188 98 ∧ h 188 98 ≤ 6 := by
  have k : IV P (1, 0, 6) (h 188 98) := q_cell hQ (q := 188) (r := 28) (x := (98, 99, (1, 0, 6))) (by decide) rfl rfl (by decide) (by decide)
  exact ⟨k.1, k.2.1⟩
/-- a cell_w of the draft is_w written_w -/
theorem gw_QK (hp : PK P N h) {i lo_w hi_w : Nat} {u v : Int} (hi0_w : 95 ≤ i) (h99 : i ≠ 99) (hu : u ≤ 9999) (v0_w : 0 ≤ v) (v1_w : v ≤ u) (hf : g_fit lo_w hi_w (1, 0, u) = true) (k1_w : lo_w ≤ i) (k2 : i < hi_w) : QK P (r_T 0) (RJ P) (j_up h 188 i v) ∧ PF N NL h (j_up h 188 i v) := by
  have hin : InI v := ⟨by omega, by omega⟩
  exact ⟨dw_QK hp.1 (ht_up hp.1.1 (by decide) hin) (Or.inl ⟨rfl, hi0_w⟩) (g_fit_ok hf k1_w k2 ⟨v0_w, v1_w, hin⟩), ⟨fun o k e e2_w e3_w => up_ne (fun z => e2_w z.1 (by rw [z.2]; exact h99)), by rw [up_ne (fun z => absurd z.1 (by decide))]; exact hp.2.1.1, by rw [up_ne (fun z => absurd z.1 (by decide))]; exact ht_fld hp.1 rfl, fun _ => up_ne (fun z => absurd z.1 (by decide)), by rw [up_ne (fun z => absurd z.1 (by decide))]; exact Int.le_refl _, by rw [up_ne (fun z => absurd z.1 (by decide))]; exact hp.2.1.2.2.1⟩⟩
theorem gw_PK (hp : PK P N h) {i lo_w hi_w : Nat} {u v : Int} (hi0_w : 95 ≤ i) (h99 : i ≠ 99) (hu : u ≤ 9999) (v0_w : 0 ≤ v) (v1_w : v ≤ u) (hf : g_fit lo_w hi_w (1, 0, u) = true) (k1_w : lo_w ≤ i) (k2 : i < hi_w) (s1_w : i ≠ 96) (s2_w : i ≠ 98) (s3_w : ∀ m : Nat, (m : Int) < h 188 98 → i ≠ 169 + 3 * m) (s4_w : ∀ m : Nat, (m : Int) < h 188 96 → i ≠ 113 + 14 * m) : PK P N (j_up h 188 i v) ∧ PF N NL h (j_up h 188 i v) := by
  obtain ⟨q, e⟩ := gw_QK hp hi0_w h99 hu v0_w v1_w hf k1_w k2
  exact ⟨⟨q, e.pt hp.2.1, DG.up hp.1 hp.2.2 (up_ne (fun z => s1_w z.2.symm)) (up_ne (fun z => s2_w z.2.symm)) (fun k hk => up_ne (fun z => s3_w k hk z.2.symm)) (fun k hk => up_ne (fun z => s4_w k hk z.2.symm))⟩, e⟩
theorem pf_nl {W : Nat → Prop} (e : PF N W h h') (hw : ¬W 99) : PF N NL h h' := e.mono (fun k hk z => hw (z ▸ hk))
theorem g_212 (c197 : G197 P N g (evF xs L ck K cW g_M n)) (c200 : G200 P N g (evF xs L ck K cW g_M n)) (c207 : G207 g (evF xs L ck K cW g_M n)) (c208 : G208 P N g (evF xs L ck K cW g_M n)) (c211 : G211 P N g (evF xs L ck K cW g_M n)) : G212 212 P N g (evF xs L ck K cW g_M (n + 1)) := fun h hp f0_w ht => by
  suffices hs : ∃ r h', evF xs L ck K cW g_M (n + 1) 212 [182] ((a_g3, g), h) = some (1, r, ((a_g3, g), h')) ∧ B212 P N h r h' by
    obtain ⟨r, h', e1_w, rfl, e2_w⟩ := hs
    exact ⟨h', e1_w, e2_w⟩
  refine tr_of gm_212 ?_
  show wS _ _ K bb_212 [182, 0, 0, 0, 0] h _
  generalize evF xs L ck K cW g_M n = F at c197 c200 c207 c208 c211 ⊢
  unfold bb_212
  simp only [wf_4, wf_40, wf_5, wf_50, wf_6, wl_1, wt_1, wu_1, wa_1, wl_4, wt_4, wu_4, wa_4, wl_5, wt_5, wu_5, wa_5, wl_6, wt_6, wu_6, wa_6, wl_9, wt_9, wu_9, wa_9, wl_10, wt_10, wu_10, wa_10, wl_11, wt_11, wu_11, wa_11, wl_13, wt_13, wu_13, wa_13, wl_14, wt_14, wu_14, wa_14, wl_15, wt_15, wu_15, wa_15, wl_16, wt_16, wu_16, wa_16, wl_17, wt_17, wu_17, wa_17, wl_20, wt_20, wu_20, wa_20, wl_21, wt_21, wu_21, wa_21, wl_22, wt_22, wu_22, wa_22, wl_23, wt_23, wu_23, wa_23, wl_24, wt_24, wu_24, wa_24, wl_26, wt_26, wu_26, wa_26, wl_27, wt_27, wu_27, wa_27, wl_28, wt_28, wu_28, wa_28, we_1, we_3, we_10, we_14, we_15, we_16, we_17, we_18, we_20, we_21, we_22, we_24, we_25, we_26, we_27, we_28, we_30, we_31, we_32, wc_20, wc_21, wc_22, wc_24, wc_25, wc_26, wc_27, wc_3, wc_4, wc_7, wc_28, wc_32, ws_1, ws_2, ws_3, ws_4, ws_9, ws_10, ws_11, ws_14, ws_15, ws_16, ws_27, ws_17, ws_20, ws_28, kc_0, kc_1, kn_1, kc_2, kn_2, kc_3, kc_4, kc_5, kc_6, kc_7, kc_8, kc_9, kc_10, kc_12, kc_13, kc_14, kc_16, kc_17, kc_18, kc_19, kc_20, kc_21, kc_22, kc_24, kc_28, kc_30, kc_32, kc_37, kc_40, kc_41, kc_42, kc_43, kc_45, kc_48, kc_56, kc_57, kc_59, kc_60, kc_61, kc_64, kc_73, kc_78, kc_91, kc_95, kc_96, kc_97, kc_98, kc_99, kc_100, kc_112, kc_122, kc_125, kc_126, kc_150, kc_162, kc_163, kc_168, kc_186, kc_190, kc_200, kc_250, kc_255, kc_355, kc_356, kc_404, kc_405, kc_429, kc_573, kc_999, kc_1000, kc_1002, kc_1100, kc_1891, kc_2200, kc_4719, kc_4869, kc_4881, kc_5148, kc_9999, kn_9999, kc_10000, kc_12345, kc_19741, kc_25433, kc_65536, kc_320403, kc_628412, kc_629093, kc_660401, kc_679843, kc_918640, kc_979410, kc_1178088, kc_6232410, kc_24644941, kc_36238189, kc_38270444, kc_392531318, kc_425693491, kc_1103515245, kc_1342154595, kc_2147483648, kc_42328242873, kc_891704255789, kc_1722105685577, kc_1858726030364, ct_0, ct_1, ct_2, ct_3, ct_4, ct_5, cf_0, cf_1, cf_2, cf_3, cf_4, cf_5, w_ty6, w_ty7, m_sv, m_z0, m_hd, m_g0, m_gs, m_s0, m_ss, m_ap, m_an, forall_const, true_and, and_true, ne_eq, not_true_eq_false, not_false_eq_true, false_implies, true_implies, implies_true, eq_self, reduceCtorEq, Nat.reduceDiv, Nat.reduceMod, Int.reduceToNat, or_true, true_or, or_false, false_or, or_self, m_it, m_if, m_c1, m_01, m_02, m_03, m_04, m_10, m_12, m_13, m_14, m_20, m_21, m_23, m_24, m_30, m_31, m_32, m_34, m_40, m_41, m_42, m_43]
  obtain ⟨b0, b4⟩ := r_96 hp.1
  obtain ⟨h1, x1_w, p1_w, e1_w, l1⟩ := c208 h 0 (h 188 96) 4 hp f0_w ht (by decide) b0 b4 (by decide)
  obtain ⟨h2, x2_w, a2, -⟩ := c197 h1 3 p1_w (by decide) (by decide)
  have p2_w := p1_w.pa a2
  obtain ⟨v, h3, x3, a3, iv_w, ok, -⟩ := c200 h2 0 999 p2_w ⟨by decide, by decide⟩ ⟨by decide, by decide⟩
  have p3_w := p2_w.pa a3
  obtain ⟨h4, x4_w, a4, -⟩ := c197 h3 4 p3_w (by decide) (by decide)
  have p4_w := p3_w.pa a4
  have e4_w : PF N NL h h4 := pf_nl (W := fun _ => False) (e1_w.tr (a2.pf.tr (a3.pf.tr a4.pf))) (fun z => z)
  have x0_w : F 207 [182, 1] ((a_g3, g), h) = some (1, [h 188 96], ((a_g3, g), h)) := c207 h 1 (by decide) (by decide)
  refine ⟨_, h, x0_w, [], h1, x1_w, [], h2, x2_w, [v], h3, x3, [], h4, x4_w, fun k => ⟨fun z => by omega, fun _ => ⟨rfl, p4_w, e4_w⟩⟩, fun k => ?_⟩
  have z4 : h4 182 8 = 0 := by
    have := p4_w.2.1.1
    omega
  have z3 : h3 182 8 = 0 := Decidable.byContradiction fun z => absurd z4 (by rw [a4.2.2.2.1 z]; exact z)
  have z2 : h2 182 8 = 0 := Decidable.byContradiction fun z => absurd z3 (by rw [a3.2.2.2.1 z]; exact z)
  have z1 : h1 182 8 = 0 := Decidable.byContradiction fun z => absurd z2 (by rw [a2.2.2.2.1 z]; exact z)
  obtain ⟨v0_w, v1_w, -⟩ := ok z3
  have m4_w := l1 z1
  have g4 : ∀ i, h4 188 i = h 188 i := fun i => (pf_g (W := fun _ => False) (e1_w.tr (a2.pf.tr (a3.pf.tr a4.pf))) (fun z => z))
  obtain ⟨m, hm_w⟩ : ∃ m : Nat, h 188 96 = (m : Int) := ⟨(h 188 96).toNat, by omega⟩
  have hm4 : m < 4 := by omega
  obtain ⟨t1_w, t2_w, t3_w⟩ := fit_c m hm4
  have j1 : j_iop 0 112 (j_iop 2 14 (h 188 96)) = 112 + 14 * (m : Int) := by
    rw [hm_w, jmul (x := 14) (y := (m : Int)) (by omega) (by omega), jadd (by omega) (by omega)]
  have j2_w : j_iop 0 (112 + 14 * (m : Int)) 2 = 114 + 14 * (m : Int) := by
    rw [jadd (by omega) (by omega)]
    omega
  have j3_w : j_iop 0 (112 + 14 * (m : Int)) 1 = 113 + 14 * (m : Int) := by
    rw [jadd (by omega) (by omega)]
    omega
  have ro : RowOK P h4 (114 + 14 * (m : Int)) 99 := by
    refine ⟨by omega, by omega, by decide, by decide, fun i w i0 i1_w w0_w w1_w => g_fit_ok t3_w (by omega) (by omega) ⟨w0_w, w1_w, by omega, by omega⟩, fun i i0 i1_w => ⟨by omega, by omega, fun k => by omega, fun k => ?_⟩⟩
    rw [g4, hm_w]
    omega
  obtain ⟨w, h5, x5_w, p5_w, e5_w, iw, w5⟩ := c211 h4 _ 99 p4_w z4 ro
  have n5_w : PF N NL h h5 := e4_w.tr (pf_nl e5_w (fun z => by have := z.1; omega))
  have g96 : h5 188 96 = (m : Int) := by
    rw [pf_g e5_w (fun z => by have := z.1; omega), g4, hm_w]
  have jh : j_hd [h 188 96] = h 188 96 := rfl
  simp only [jh, j1, j2_w, j3_w]
  refine ⟨[w], h5, x5_w, fun z5 => ?_, fun z5 => ⟨rfl, p5_w, n5_w⟩⟩
  obtain ⟨w0_w, w1_w⟩ := w5 z5
  have k1_w : (112 + 14 * (m : Int)).toNat = 112 + 14 * m := by omega
  have k2 : (113 + 14 * (m : Int)).toNat = 113 + 14 * m := by omega
  refine ⟨⟨by omega, by omega⟩, ⟨by omega, by omega⟩, ⟨by decide, by decide⟩, ?_⟩
  rw [k1_w, k2]
  obtain ⟨p6_w, n6_w⟩ := gw_PK p5_w (i := 112 + 14 * m) (by omega) (by omega) (by decide) v0_w v1_w t1_w (by omega) (by omega) (by omega) (by omega) (fun k _ => by omega) (fun k _ => by omega)
  have g96' : j_up h5 188 (112 + 14 * m) v 188 96 = (m : Int) := by
    rw [up_ne (fun z => by have := z.2; omega), g96]
  obtain ⟨p7_w, n7⟩ := gw_PK p6_w (i := 113 + 14 * m) (by omega) (by omega) (by decide) (v := w) (by omega) w1_w t2_w (by omega) (by omega) (by omega) (by omega) (fun k _ => by omega) (fun k hk => by rw [g96'] at hk; omega)
  have g96'' : j_up (j_up h5 188 (112 + 14 * m) v) 188 (113 + 14 * m) w 188 96 = (m : Int) := by
    rw [up_ne (fun z => by have := z.2; omega), g96']
  rw [show j_hd [w] = w from rfl, show j_hd [v] = v from rfl, g96'', jadd (x := (m : Int)) (y := 1) (by omega) (by omega)]
  have cw : j_up (j_up h5 188 (112 + 14 * m) v) 188 (113 + 14 * m) w 188 (113 + 14 * m) = w := up_eq
  generalize j_up (j_up h5 188 (112 + 14 * m) v) 188 (113 + 14 * m) w = h7 at p7_w n7 g96'' cw ⊢
  obtain ⟨q8_w, n8⟩ := gw_QK p7_w (i := 96) (lo_w := 96) (hi_w := 97) (u := 4) (v := (m : Int) + 1) (by decide) (by decide) (by decide) (by omega) (by omega) (by decide +kernel) (by decide) (by decide)
  refine ⟨rfl, ⟨q8_w, n8.pt p7_w.2.1, ?_⟩, n5_w.tr (n6_w.tr (n7.tr n8))⟩
  have d := p7_w.2.2
  have e98_w : j_up h7 188 96 ((m : Int) + 1) 188 98 = h7 188 98 := up_ne (fun z => absurd z.2 (by decide))
  have e96 : j_up h7 188 96 ((m : Int) + 1) 188 96 = (m : Int) + 1 := up_eq
  unfold DG
  rw [e98_w, e96]
  refine ⟨fun i hi_w => ?_, fun c hc_w => ?_⟩
  · rw [up_ne (fun z => by have := z.2; omega)]
    have k := d.1 i hi_w
    rw [g96''] at k
    omega
  · rw [up_ne (fun z => by have := z.2; omega)]
    by_cases e : c = m
    · subst e
      rw [show 95 + (18 + 14 * c) = 113 + 14 * c by omega, cw]
      omega
    · exact d.2 c (by rw [g96'']; omega)
end PARC
end
section
/-! ===== the reference's parser: a meter ===== -/
section PARD
variable {P : Int × Int} {N : Nat} {g : Nat × Nat} {xs : Nat → Int} {L K n : Nat} {ck : Nat → List Nat} {cW : Nat → Nat → Int} {h h' h1 h2 : XH} {F : XP}
theorem pa_0 (a : PA N h h1) (z : h1 182 8 = 0) : h 182 8 = 0 := Decidable.byContradiction fun y => absurd z (by rw [a.2.2.2.1 y]; exact y)
theorem g_213 (c197 : G197 P N g (evF xs L ck K cW g_M n)) (c202 : G202 P N g (evF xs L ck K cW g_M n)) (c205 : G205 P N g (evF xs L ck K cW g_M n)) (c207 : G207 g (evF xs L ck K cW g_M n)) (c208 : G208 P N g (evF xs L ck K cW g_M n)) : G212 213 P N g (evF xs L ck K cW g_M (n + 1)) := fun h hp f0_w ht => by
  suffices hs : ∃ r h', evF xs L ck K cW g_M (n + 1) 213 [182] ((a_g3, g), h) = some (1, r, ((a_g3, g), h')) ∧ B212 P N h r h' by
    obtain ⟨r, h', e1_w, rfl, e2_w⟩ := hs
    exact ⟨h', e1_w, e2_w⟩
  refine tr_of gm_213 ?_
  show wS _ _ K bb_213 [182, 0, 0, 0, 0, 0] h _
  generalize evF xs L ck K cW g_M n = F at c197 c202 c205 c207 c208 ⊢
  unfold bb_213
  simp only [wf_4, wf_40, wf_5, wf_50, wf_6, wl_1, wt_1, wu_1, wa_1, wl_4, wt_4, wu_4, wa_4, wl_5, wt_5, wu_5, wa_5, wl_6, wt_6, wu_6, wa_6, wl_9, wt_9, wu_9, wa_9, wl_10, wt_10, wu_10, wa_10, wl_11, wt_11, wu_11, wa_11, wl_13, wt_13, wu_13, wa_13, wl_14, wt_14, wu_14, wa_14, wl_15, wt_15, wu_15, wa_15, wl_16, wt_16, wu_16, wa_16, wl_17, wt_17, wu_17, wa_17, wl_20, wt_20, wu_20, wa_20, wl_21, wt_21, wu_21, wa_21, wl_22, wt_22, wu_22, wa_22, wl_23, wt_23, wu_23, wa_23, wl_24, wt_24, wu_24, wa_24, wl_26, wt_26, wu_26, wa_26, wl_27, wt_27, wu_27, wa_27, wl_28, wt_28, wu_28, wa_28, we_1, we_3, we_10, we_14, we_15, we_16, we_17, we_18, we_20, we_21, we_22, we_24, we_25, we_26, we_27, we_28, we_30, we_31, we_32, wc_20, wc_21, wc_22, wc_24, wc_25, wc_26, wc_27, wc_3, wc_4, wc_7, wc_28, wc_32, ws_1, ws_2, ws_3, ws_4, ws_9, ws_10, ws_11, ws_14, ws_15, ws_16, ws_27, ws_17, ws_20, ws_28, kc_0, kc_1, kn_1, kc_2, kn_2, kc_3, kc_4, kc_5, kc_6, kc_7, kc_8, kc_9, kc_10, kc_12, kc_13, kc_14, kc_16, kc_17, kc_18, kc_19, kc_20, kc_21, kc_22, kc_24, kc_28, kc_30, kc_32, kc_37, kc_40, kc_41, kc_42, kc_43, kc_45, kc_48, kc_56, kc_57, kc_59, kc_60, kc_61, kc_64, kc_73, kc_78, kc_91, kc_95, kc_96, kc_97, kc_98, kc_99, kc_100, kc_112, kc_122, kc_125, kc_126, kc_150, kc_162, kc_163, kc_168, kc_186, kc_190, kc_200, kc_250, kc_255, kc_355, kc_356, kc_404, kc_405, kc_429, kc_573, kc_999, kc_1000, kc_1002, kc_1100, kc_1891, kc_2200, kc_4719, kc_4869, kc_4881, kc_5148, kc_9999, kn_9999, kc_10000, kc_12345, kc_19741, kc_25433, kc_65536, kc_320403, kc_628412, kc_629093, kc_660401, kc_679843, kc_918640, kc_979410, kc_1178088, kc_6232410, kc_24644941, kc_36238189, kc_38270444, kc_392531318, kc_425693491, kc_1103515245, kc_1342154595, kc_2147483648, kc_42328242873, kc_891704255789, kc_1722105685577, kc_1858726030364, ct_0, ct_1, ct_2, ct_3, ct_4, ct_5, cf_0, cf_1, cf_2, cf_3, cf_4, cf_5, w_ty6, w_ty7, m_sv, m_z0, m_hd, m_g0, m_gs, m_s0, m_ss, m_ap, m_an, forall_const, true_and, and_true, ne_eq, not_true_eq_false, not_false_eq_true, false_implies, true_implies, implies_true, eq_self, reduceCtorEq, Nat.reduceDiv, Nat.reduceMod, Int.reduceToNat, or_true, true_or, or_false, false_or, or_self, m_it, m_if, m_c1, m_01, m_02, m_03, m_04, m_10, m_12, m_13, m_14, m_20, m_21, m_23, m_24, m_30, m_31, m_32, m_34, m_40, m_41, m_42, m_43]
  obtain ⟨b0, b6⟩ := r_98 hp.1
  obtain ⟨cc0, cc4⟩ := r_96 hp.1
  obtain ⟨ss0, ss4⟩ := r_97 hp.1
  obtain ⟨h1, x1_w, p1_w, e1_w, l1⟩ := c208 h 8 (h 188 98) 6 hp f0_w ht (by decide) b0 b6 (by decide)
  obtain ⟨v, h2, x2_w, a2, iv_w, ok2, -⟩ := c202 h1 13 4 p1_w (by decide) (by decide) (by decide)
  have p2_w := p1_w.pa a2
  obtain ⟨h3, x3, a3, -⟩ := c197 h2 2 p2_w (by decide) (by decide)
  have p3_w := p2_w.pa a3
  have n3_w : PF N (fun _ => False) h h3 := e1_w.tr (a2.pf.tr a3.pf)
  have g3_w : ∀ i, h3 188 i = h 188 i := fun i => pf_g n3_w (fun z => z)
  obtain ⟨w, h4, x4_w, a4, iw, ok4, -⟩ := c205 h3 14 (h 188 96) p3_w (by decide) cc0 (by omega)
  have p4_w := p3_w.pa a4
  obtain ⟨h5, x5_w, a5, -⟩ := c197 h4 7 p4_w (by decide) (by decide)
  have p5_w := p4_w.pa a5
  have n5_w : PF N (fun _ => False) h h5 := n3_w.tr (a4.pf.tr a5.pf)
  have g5_w : ∀ i, h5 188 i = h 188 i := fun i => pf_g n5_w (fun z => z)
  obtain ⟨u, h6, x6, a6, iu, ok6, -⟩ := c205 h5 18 (h 188 97) p5_w (by decide) ss0 (by omega)
  have p6_w := p5_w.pa a6
  have n6_w : PF N (fun _ => False) h h6 := n5_w.tr a6.pf
  have g6 : ∀ i, h6 188 i = h 188 i := fun i => pf_g n6_w (fun z => z)
  have m6_w : PF N NL h h6 := pf_nl n6_w (fun z => z)
  have y0 : F 207 [182, 3] ((a_g3, g), h) = some (1, [h 188 98], ((a_g3, g), h)) := c207 h 3 (by decide) (by decide)
  have y3 : F 207 [182, 1] ((a_g3, g), h3) = some (1, [h 188 96], ((a_g3, g), h3)) := by
    rw [← g3_w]
    exact c207 h3 1 (by decide) (by decide)
  have y5 : F 207 [182, 2] ((a_g3, g), h5) = some (1, [h 188 97], ((a_g3, g), h5)) := by
    rw [← g5_w]
    exact c207 h5 2 (by decide) (by decide)
  refine ⟨_, h, y0, [], h1, x1_w, [v], h2, x2_w, [], h3, x3, _, h3, y3, [w], h4, x4_w, [], h5, x5_w, _, h5, y5, [u], h6, x6, fun z6 => ?_, fun z6 => ⟨rfl, p6_w, m6_w⟩⟩
  have z5 := pa_0 a6 z6
  have z4 := pa_0 a5 z5
  have z3 := pa_0 a4 z4
  have z2 := pa_0 a3 z3
  have z1 := pa_0 a2 z2
  have l6 := l1 z1
  obtain ⟨v0_w, v1_w, -⟩ := ok2 z2
  obtain ⟨w0_w, w1_w, -⟩ := ok4 z4
  obtain ⟨u0, u1, -⟩ := ok6 z6
  obtain ⟨m, hm_w⟩ : ∃ m : Nat, h 188 98 = (m : Int) := ⟨(h 188 98).toNat, by omega⟩
  have hm6 : m < 6 := by omega
  have ft := fit_m m hm6
  have j1 : j_iop 0 168 (j_iop 2 3 (h 188 98)) = 168 + 3 * (m : Int) := by
    rw [hm_w, jmul (x := 3) (y := (m : Int)) (by omega) (by omega), jadd (by omega) (by omega)]
  have j2_w : j_iop 0 (168 + 3 * (m : Int)) 1 = 169 + 3 * (m : Int) := by
    rw [jadd (by omega) (by omega)]
    omega
  have j3_w : j_iop 0 (168 + 3 * (m : Int)) 2 = 170 + 3 * (m : Int) := by
    rw [jadd (by omega) (by omega)]
    omega
  have jh : j_hd [h 188 98] = h 188 98 := rfl
  simp only [jh, j1, j2_w, j3_w]
  have k1_w : (168 + 3 * (m : Int)).toNat = 168 + 3 * m := by omega
  have k2 : (169 + 3 * (m : Int)).toNat = 169 + 3 * m := by omega
  have k3 : (170 + 3 * (m : Int)).toNat = 170 + 3 * m := by omega
  refine ⟨⟨by omega, by omega⟩, ⟨by omega, by omega⟩, ⟨by omega, by omega⟩, ⟨by decide, by decide⟩, ?_⟩
  rw [k1_w, k2, k3]
  have e98_w : h6 188 98 = (m : Int) := by rw [g6, hm_w]
  obtain ⟨q1_w, s1_w⟩ := gw_PK p6_w (i := 168 + 3 * m) (u := 3) (v := v) (by omega) (by omega) (by decide) v0_w (by omega) ft (by omega) (by omega) (by omega) (by omega) (fun k _ => by omega) (fun k hk => by rw [g6] at hk; omega)
  have e98' : j_up h6 188 (168 + 3 * m) v 188 98 = (m : Int) := by
    rw [up_ne (fun z => by have := z.2; omega), e98_w]
  have e96' : j_up h6 188 (168 + 3 * m) v 188 96 = h 188 96 := by
    rw [up_ne (fun z => by have := z.2; omega), g6]
  obtain ⟨q2_w, s2_w⟩ := gw_PK q1_w (i := 169 + 3 * m) (u := 3) (v := w) (by omega) (by omega) (by decide) w0_w (by omega) ft (by omega) (by omega) (by omega) (by omega) (fun k hk => by rw [e98'] at hk; omega) (fun k hk => by rw [e96'] at hk; omega)
  have e98'' : j_up (j_up h6 188 (168 + 3 * m) v) 188 (169 + 3 * m) w 188 98 = (m : Int) := by
    rw [up_ne (fun z => by have := z.2; omega), e98']
  have e96'' : j_up (j_up h6 188 (168 + 3 * m) v) 188 (169 + 3 * m) w 188 96 = h 188 96 := by
    rw [up_ne (fun z => by have := z.2; omega), e96']
  have cw : j_up (j_up h6 188 (168 + 3 * m) v) 188 (169 + 3 * m) w 188 (169 + 3 * m) = w := up_eq
  rw [show j_hd [u] = u from rfl, show j_hd [w] = w from rfl, show j_hd [v] = v from rfl]
  generalize j_up (j_up h6 188 (168 + 3 * m) v) 188 (169 + 3 * m) w = h7 at q2_w s2_w e98'' e96'' cw ⊢
  obtain ⟨q3_w, s3_w⟩ := gw_PK q2_w (i := 170 + 3 * m) (u := 3) (v := u) (by omega) (by omega) (by decide) u0 (by omega) ft (by omega) (by omega) (by omega) (by omega) (fun k hk => by omega) (fun k hk => by rw [e96''] at hk; omega)
  have f98 : j_up h7 188 (170 + 3 * m) u 188 98 = (m : Int) := by
    rw [up_ne (fun z => by have := z.2; omega), e98'']
  have f96 : j_up h7 188 (170 + 3 * m) u 188 96 = h 188 96 := by
    rw [up_ne (fun z => by have := z.2; omega), e96'']
  have fw : j_up h7 188 (170 + 3 * m) u 188 (169 + 3 * m) = w := by
    rw [up_ne (fun z => by have := z.2; omega), cw]
  rw [f98, jadd (x := (m : Int)) (y := 1) (by omega) (by omega)]
  generalize j_up h7 188 (170 + 3 * m) u = h8 at q3_w s3_w f98 f96 fw ⊢
  obtain ⟨q4_w, s4_w⟩ := gw_QK q3_w (i := 98) (lo_w := 98) (hi_w := 99) (u := 6) (v := (m : Int) + 1) (by decide) (by decide) (by decide) (by omega) (by omega) (by decide +kernel) (by decide) (by decide)
  refine ⟨rfl, ⟨q4_w, s4_w.pt q3_w.2.1, ?_⟩, m6_w.tr (s1_w.tr (s2_w.tr (s3_w.tr s4_w)))⟩
  have d := q3_w.2.2
  have d98_w : j_up h8 188 98 ((m : Int) + 1) 188 98 = (m : Int) + 1 := up_eq
  have d96_w : j_up h8 188 98 ((m : Int) + 1) 188 96 = h8 188 96 := up_ne (fun z => absurd z.2 (by decide))
  unfold DG
  rw [d98_w, d96_w]
  refine ⟨fun i hi_w => ?_, fun c hc_w => ?_⟩
  · rw [up_ne (fun z => by have := z.2; omega)]
    by_cases e : i = m
    · subst e
      rw [show 95 + (74 + 3 * i) = 169 + 3 * i by omega, fw, f96]
      omega
    · exact d.1 i (by rw [f98]; omega)
  · rw [up_ne (fun z => by have := z.2; omega)]
    exact d.2 c hc_w
end PARD
end
