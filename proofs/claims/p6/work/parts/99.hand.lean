/-! ===== the reference's methods by hand_w: runs, run, undo ===== -/
def S270 (P : Int × Int) (J : XH → Prop) (g : Nat × Nat) (F : XP) : Prop := ∀ (h : XH) (j : Nat), QK P (r_T 0) J h → j < 12 → h 194 (429 * j + 162) < 4 → ∃ h', F 270 [182, 429 * (j : Int)] ((a_g3, g), h) = some (1, [], ((a_g3, g), h')) ∧ QK P (r_T 0) J h' ∧ KR (r_T 0) h h'
section HA9
variable {P : Int × Int} {g : Nat × Nat} {xs : Nat → Int} {L K n : Nat} {ck : Nat → List Nat} {cW : Nat → Nat → Int} {h : XH} {J : XH → Prop}
/-- an array that a method_w doesn't write_w -/
theorem fq {F : XP} (hfr : FrF m_W m_in m_st F) {f : Nat} {av : List Int} {h2 : XH} {c : Nat} {r : List Int} {g' : XS × Nat × Nat} (q : Nat) (e : F f av ((a_g3, g), h) = some (c, r, (g', h2))) (hc_w : (m_in f && !(m_W f).2.contains q && !(q == 182)) = true) (ha_w : av.getD 0 0 = 182) : h2 q = h q := by
  simp only [Bool.and_eq_true, Bool.not_eq_true', beq_eq_false_iff_ne] at hc_w
  exact funext fun k => (hfr f av _ h _ _ _ _ hc_w.1.1 rfl (Or.inr ha_w) e).2 q k (fun z => absurd z hc_w.2) hc_w.1.2
theorem DA.of {j : Nat} {h h' : XH} (e : h' 194 = h 194) (hd_w : DA j h) : DA j h' := by
  unfold DA at hd_w ⊢
  rw [e]
  exact hd_w
theorem iv_bj {j : Nat} (hj : j < 12) : IV P (3, 0, 0) (429 * (j : Int)) := ⟨⟨by omega, by omega⟩, j, hj, by omega, by omega⟩
theorem s_270 (hJ : JS (r_T 0) J) (hK_w : 4294967300 ≤ K) (c225 : TotR P (r_T 0) J g (evF xs L ck K cW g_M n) 225) (c227 : TotR P (r_T 0) J g (evF xs L ck K cW g_M n) 227) (c228 : TotR P (r_T 0) J g (evF xs L ck K cW g_M n) 228) (c254 : TotR P (r_T 0) J g (evF xs L ck K cW g_M n) 254) (c257 : TotR P (r_T 0) J g (evF xs L ck K cW g_M n) 257) (c256 : TotR P (r_T 0) J g (evF xs L ck K cW g_M n) 256) (c230 : TotR P (r_T 0) J g (evF xs L ck K cW g_M n) 230) (c269 : S269 P J g (evF xs L ck K cW g_M n)) : S270 P J g (evF xs L ck K cW g_M (n + 1)) := fun h j hQ hj hrun => by
  suffices hs : ∃ r h', evF xs L ck K cW g_M (n + 1) 270 [182, 429 * (j : Int)] ((a_g3, g), h) = some (1, r, ((a_g3, g), h')) ∧ QK P (r_T 0) J h' ∧ KR (r_T 0) h h' ∧ r = [] by
    obtain ⟨r, h', e1_w, e2_w, e3_w, rfl⟩ := hs
    exact ⟨h', e1_w, e2_w, e3_w⟩
  refine tr_of gm_270 (B := fun r h' => QK P (r_T 0) J h' ∧ KR (r_T 0) h h' ∧ r = []) ?_
  show wS _ _ K bb_270 [182, 429 * (j : Int), 0, 0, 0] h _
  have hfr := fr_all (xs := xs) (L := L) (ck := ck) (K := K) (cW := cW) n
  generalize evF xs L ck K cW g_M n = F at c225 c227 c228 c254 c257 c256 c230 c269 hfr ⊢
  have k162 : IV P (1, 0, 4) (h 194 (429 * j + 162)) := s_cell hQ (r := 3) (x := (162, 163, (1, 0, 4))) rfl (by decide) (by decide) hj
  have r0 : 0 ≤ h 194 (429 * j + 162) := k162.1
  have hb_w := iv_bj (P := P) hj
  unfold bb_270
  simp only [wf_4, wf_40, wf_5, wf_50, wf_6, wl_1, wt_1, wu_1, wa_1, wl_4, wt_4, wu_4, wa_4, wl_5, wt_5, wu_5, wa_5, wl_6, wt_6, wu_6, wa_6, wl_9, wt_9, wu_9, wa_9, wl_10, wt_10, wu_10, wa_10, wl_11, wt_11, wu_11, wa_11, wl_13, wt_13, wu_13, wa_13, wl_14, wt_14, wu_14, wa_14, wl_15, wt_15, wu_15, wa_15, wl_16, wt_16, wu_16, wa_16, wl_17, wt_17, wu_17, wa_17, wl_20, wt_20, wu_20, wa_20, wl_21, wt_21, wu_21, wa_21, wl_22, wt_22, wu_22, wa_22, wl_23, wt_23, wu_23, wa_23, wl_24, wt_24, wu_24, wa_24, wl_26, wt_26, wu_26, wa_26, wl_27, wt_27, wu_27, wa_27, wl_28, wt_28, wu_28, wa_28, we_1, we_3, we_10, we_14, we_15, we_16, we_17, we_18, we_20, we_21, we_22, we_24, we_25, we_26, we_27, we_28, we_30, we_31, we_32, wc_20, wc_21, wc_22, wc_24, wc_25, wc_26, wc_27, wc_3, wc_4, wc_7, wc_28, wc_32, ws_1, ws_2, ws_3, ws_4, ws_9, ws_10, ws_11, ws_14, ws_15, ws_16, ws_27, ws_17, ws_20, ws_28, kc_0, kc_1, kn_1, kc_2, kn_2, kc_3, kc_4, kc_5, kc_6, kc_7, kc_8, kc_9, kc_10, kc_12, kc_13, kc_14, kc_16, kc_17, kc_18, kc_19, kc_20, kc_21, kc_22, kc_24, kc_28, kc_30, kc_32, kc_37, kc_40, kc_41, kc_42, kc_43, kc_45, kc_48, kc_56, kc_57, kc_59, kc_60, kc_61, kc_64, kc_73, kc_78, kc_91, kc_95, kc_96, kc_97, kc_98, kc_99, kc_100, kc_112, kc_122, kc_125, kc_126, kc_150, kc_162, kc_163, kc_168, kc_186, kc_190, kc_200, kc_250, kc_255, kc_355, kc_356, kc_404, kc_405, kc_429, kc_573, kc_999, kc_1000, kc_1002, kc_1100, kc_1891, kc_2200, kc_4719, kc_4869, kc_4881, kc_5148, kc_9999, kn_9999, kc_10000, kc_12345, kc_19741, kc_25433, kc_65536, kc_320403, kc_628412, kc_629093, kc_660401, kc_679843, kc_918640, kc_979410, kc_1178088, kc_6232410, kc_24644941, kc_36238189, kc_38270444, kc_392531318, kc_425693491, kc_1103515245, kc_1342154595, kc_2147483648, kc_42328242873, kc_891704255789, kc_1722105685577, kc_1858726030364, ct_0, ct_1, ct_2, ct_3, ct_4, ct_5, cf_0, cf_1, cf_2, cf_3, cf_4, cf_5, w_ty6, w_ty7, m_sv, m_z0, m_hd, m_g0, m_gs, m_s0, m_ss, m_ap, m_an, forall_const, true_and, and_true, ne_eq, not_true_eq_false, not_false_eq_true, false_implies, true_implies, implies_true, eq_self, reduceCtorEq, Nat.reduceDiv, Nat.reduceMod, Int.reduceToNat, or_true, true_or, or_false, false_or, or_self, m_it, m_if, m_c1, m_01, m_02, m_03, m_04, m_10, m_12, m_13, m_14, m_20, m_21, m_23, m_24, m_30, m_31, m_32, m_34, m_40, m_41, m_42, m_43]
  have e1_w : j_iop 0 (429 * (j : Int)) 162 = 429 * (j : Int) + 162 := jadd (by omega) (by omega)
  have e2_w : (429 * (j : Int) + 162).toNat = 429 * j + 162 := by omega
  rw [e1_w, e2_w]
  generalize hR : h 194 (429 * j + 162) = R at hrun r0
  refine ⟨⟨by omega, by omega⟩, ?_⟩
  refine w_lp (fun en h' => ∃ s z : Int, en = [182, 429 * (j : Int), R, s, z] ∧ 0 ≤ s ∧ s ≤ 12 ∧ QK P (r_T 0) J h' ∧ KR (r_T 0) h h' ∧ h' 194 (429 * j + 162) = R) (fun en _ => (12 - en.getD 3 0).toNat) ⟨0, 0, rfl, by omega, by omega, hQ, KR.rf, hR⟩ ?_
  rintro en h1 ⟨s, z, rfl, s0, s1_w, q1_w, q2_w, q3_w⟩
  refine ⟨?_, ?_⟩
  · show (12 - s).toNat < K
    omega
  simp only [wf_4, wf_40, wf_5, wf_50, wf_6, wl_1, wt_1, wu_1, wa_1, wl_4, wt_4, wu_4, wa_4, wl_5, wt_5, wu_5, wa_5, wl_6, wt_6, wu_6, wa_6, wl_9, wt_9, wu_9, wa_9, wl_10, wt_10, wu_10, wa_10, wl_11, wt_11, wu_11, wa_11, wl_13, wt_13, wu_13, wa_13, wl_14, wt_14, wu_14, wa_14, wl_15, wt_15, wu_15, wa_15, wl_16, wt_16, wu_16, wa_16, wl_17, wt_17, wu_17, wa_17, wl_20, wt_20, wu_20, wa_20, wl_21, wt_21, wu_21, wa_21, wl_22, wt_22, wu_22, wa_22, wl_23, wt_23, wu_23, wa_23, wl_24, wt_24, wu_24, wa_24, wl_26, wt_26, wu_26, wa_26, wl_27, wt_27, wu_27, wa_27, wl_28, wt_28, wu_28, wa_28, we_1, we_3, we_10, we_14, we_15, we_16, we_17, we_18, we_20, we_21, we_22, we_24, we_25, we_26, we_27, we_28, we_30, we_31, we_32, wc_20, wc_21, wc_22, wc_24, wc_25, wc_26, wc_27, wc_3, wc_4, wc_7, wc_28, wc_32, ws_1, ws_2, ws_3, ws_4, ws_9, ws_10, ws_11, ws_14, ws_15, ws_16, ws_27, ws_17, ws_20, ws_28, kc_0, kc_1, kn_1, kc_2, kn_2, kc_3, kc_4, kc_5, kc_6, kc_7, kc_8, kc_9, kc_10, kc_12, kc_13, kc_14, kc_16, kc_17, kc_18, kc_19, kc_20, kc_21, kc_22, kc_24, kc_28, kc_30, kc_32, kc_37, kc_40, kc_41, kc_42, kc_43, kc_45, kc_48, kc_56, kc_57, kc_59, kc_60, kc_61, kc_64, kc_73, kc_78, kc_91, kc_95, kc_96, kc_97, kc_98, kc_99, kc_100, kc_112, kc_122, kc_125, kc_126, kc_150, kc_162, kc_163, kc_168, kc_186, kc_190, kc_200, kc_250, kc_255, kc_355, kc_356, kc_404, kc_405, kc_429, kc_573, kc_999, kc_1000, kc_1002, kc_1100, kc_1891, kc_2200, kc_4719, kc_4869, kc_4881, kc_5148, kc_9999, kn_9999, kc_10000, kc_12345, kc_19741, kc_25433, kc_65536, kc_320403, kc_628412, kc_629093, kc_660401, kc_679843, kc_918640, kc_979410, kc_1178088, kc_6232410, kc_24644941, kc_36238189, kc_38270444, kc_392531318, kc_425693491, kc_1103515245, kc_1342154595, kc_2147483648, kc_42328242873, kc_891704255789, kc_1722105685577, kc_1858726030364, ct_0, ct_1, ct_2, ct_3, ct_4, ct_5, cf_0, cf_1, cf_2, cf_3, cf_4, cf_5, w_ty6, w_ty7, m_sv, m_z0, m_hd, m_g0, m_gs, m_s0, m_ss, m_ap, m_an, forall_const, true_and, and_true, ne_eq, not_true_eq_false, not_false_eq_true, false_implies, true_implies, implies_true, eq_self, reduceCtorEq, Nat.reduceDiv, Nat.reduceMod, Int.reduceToNat, or_true, true_or, or_false, false_or, or_self, m_it, m_if, m_c1, m_01, m_02, m_03, m_04, m_10, m_12, m_13, m_14, m_20, m_21, m_23, m_24, m_30, m_31, m_32, m_34, m_40, m_41, m_42, m_43]
  obtain ⟨v1_w, h2, a1_w, a2, a3, a4, a5, -⟩ := use1 c225 rp_225 rr_225 q1_w il_this
  have a6 := fq hfr 194 a1_w (by decide +kernel) rfl
  refine ⟨[v1_w], h2, a1_w, fun hs => ?_, fun hs => ?_⟩
  · simp only [m_hd] at hs
    have hsl : IV P (1, 0, 11) s := ⟨s0, by omega, ⟨by omega, by omega⟩⟩
    obtain ⟨h3, b1, b2, b3⟩ := use0 (av := [182, 429 * (j : Int), s]) c254 rp_254 rr_254 a2 ⟨rfl, hb_w, hsl, trivial⟩
    have b6 := fq hfr 194 b1 (by decide +kernel) rfl
    refine ⟨[], h3, b1, ?_⟩
    refine w_lp (fun en h' => ∃ t : Int, en = [182, 429 * (j : Int), R, s, t] ∧ 0 ≤ t ∧ t ≤ 4 ∧ QK P (r_T 0) J h' ∧ KR (r_T 0) h h' ∧ h' 194 (429 * j + 162) = R) (fun en _ => (4 - en.getD 4 0).toNat) ⟨0, rfl, by omega, by omega, b2, (q2_w.tr a3).tr b3, by rw [b6, a6]; exact q3_w⟩ ?_
    rintro en h4 ⟨t, rfl, t0_w, t1_w, q4_w, q5_w, q6_w⟩
    refine ⟨?_, ?_⟩
    · show (4 - t).toNat < K
      omega
    simp only [wf_4, wf_40, wf_5, wf_50, wf_6, wl_1, wt_1, wu_1, wa_1, wl_4, wt_4, wu_4, wa_4, wl_5, wt_5, wu_5, wa_5, wl_6, wt_6, wu_6, wa_6, wl_9, wt_9, wu_9, wa_9, wl_10, wt_10, wu_10, wa_10, wl_11, wt_11, wu_11, wa_11, wl_13, wt_13, wu_13, wa_13, wl_14, wt_14, wu_14, wa_14, wl_15, wt_15, wu_15, wa_15, wl_16, wt_16, wu_16, wa_16, wl_17, wt_17, wu_17, wa_17, wl_20, wt_20, wu_20, wa_20, wl_21, wt_21, wu_21, wa_21, wl_22, wt_22, wu_22, wa_22, wl_23, wt_23, wu_23, wa_23, wl_24, wt_24, wu_24, wa_24, wl_26, wt_26, wu_26, wa_26, wl_27, wt_27, wu_27, wa_27, wl_28, wt_28, wu_28, wa_28, we_1, we_3, we_10, we_14, we_15, we_16, we_17, we_18, we_20, we_21, we_22, we_24, we_25, we_26, we_27, we_28, we_30, we_31, we_32, wc_20, wc_21, wc_22, wc_24, wc_25, wc_26, wc_27, wc_3, wc_4, wc_7, wc_28, wc_32, ws_1, ws_2, ws_3, ws_4, ws_9, ws_10, ws_11, ws_14, ws_15, ws_16, ws_27, ws_17, ws_20, ws_28, kc_0, kc_1, kn_1, kc_2, kn_2, kc_3, kc_4, kc_5, kc_6, kc_7, kc_8, kc_9, kc_10, kc_12, kc_13, kc_14, kc_16, kc_17, kc_18, kc_19, kc_20, kc_21, kc_22, kc_24, kc_28, kc_30, kc_32, kc_37, kc_40, kc_41, kc_42, kc_43, kc_45, kc_48, kc_56, kc_57, kc_59, kc_60, kc_61, kc_64, kc_73, kc_78, kc_91, kc_95, kc_96, kc_97, kc_98, kc_99, kc_100, kc_112, kc_122, kc_125, kc_126, kc_150, kc_162, kc_163, kc_168, kc_186, kc_190, kc_200, kc_250, kc_255, kc_355, kc_356, kc_404, kc_405, kc_429, kc_573, kc_999, kc_1000, kc_1002, kc_1100, kc_1891, kc_2200, kc_4719, kc_4869, kc_4881, kc_5148, kc_9999, kn_9999, kc_10000, kc_12345, kc_19741, kc_25433, kc_65536, kc_320403, kc_628412, kc_629093, kc_660401, kc_679843, kc_918640, kc_979410, kc_1178088, kc_6232410, kc_24644941, kc_36238189, kc_38270444, kc_392531318, kc_425693491, kc_1103515245, kc_1342154595, kc_2147483648, kc_42328242873, kc_891704255789, kc_1722105685577, kc_1858726030364, ct_0, ct_1, ct_2, ct_3, ct_4, ct_5, cf_0, cf_1, cf_2, cf_3, cf_4, cf_5, w_ty6, w_ty7, m_sv, m_z0, m_hd, m_g0, m_gs, m_s0, m_ss, m_ap, m_an, forall_const, true_and, and_true, ne_eq, not_true_eq_false, not_false_eq_true, false_implies, true_implies, implies_true, eq_self, reduceCtorEq, Nat.reduceDiv, Nat.reduceMod, Int.reduceToNat, or_true, true_or, or_false, false_or, or_self, m_it, m_if, m_c1, m_01, m_02, m_03, m_04, m_10, m_12, m_13, m_14, m_20, m_21, m_23, m_24, m_30, m_31, m_32, m_34, m_40, m_41, m_42, m_43]
    obtain ⟨v2, h5, d1_w, d2_w, d3_w, d4_w, d5, -⟩ := use1 c227 rp_227 rr_227 q4_w il_this
    have d6_w := fq hfr 194 d1_w (by decide +kernel) rfl
    refine ⟨[v2], h5, d1_w, fun ht => ?_, fun ht => ?_⟩
    · simp only [m_hd] at ht
      obtain ⟨v3, h6, x1_w, x2_w, x3, x4_w⟩ := use1 (av := [182, 429 * (j : Int), t, s]) c257 rp_257 rr_257 d2_w ⟨rfl, hb_w, IV.top ⟨by omega, by omega⟩, hsl, trivial⟩
      have x6 := fq hfr 194 x1_w (by decide +kernel) rfl
      have ei : j_iop 0 (j_iop 0 (j_iop 0 (j_iop 0 (429 * (j : Int)) 163) (j_iop 2 48 R)) (j_iop 2 12 t)) s = 429 * (j : Int) + 163 + 48 * R + 12 * t + s := by
        simp (disch := omega) only [jmul, jadd]
      rw [ei, jinc (by omega) (by omega)]
      have ej : (429 * (j : Int) + 163 + 48 * R + 12 * t + s).toNat = 429 * j + (163 + 48 * R + 12 * t + s).toNat := by omega
      rw [ej]
      obtain ⟨z1, z2⟩ := st_QK x2_w hJ (j := j) (i := (163 + 48 * R + 12 * t + s).toNat) (v := v3) hj (by omega) (st_fit_ok (lo_w := 163) (hi_w := 355) (t := iT) (by decide +kernel) (by omega) (by omega) x4_w) x4_w.2.2
      refine ⟨[v3], h6, x1_w, ⟨by omega, by omega⟩, ⟨t + 1, rfl, by omega, by omega, z1, ((q5_w.tr d3_w).tr x3).tr z2, ?_⟩, ?_⟩
      · rw [up_ne (fun z => by have := z.2; omega), x6, d6_w]
        exact q6_w
      · show (4 - (t + 1)).toNat < (4 - t).toNat
        omega
    · rw [jinc (by omega) (by omega)]
      refine ⟨⟨s + 1, t, rfl, by omega, by omega, d2_w, q5_w.tr d3_w, by rw [d6_w]; exact q6_w⟩, ?_⟩
      show (12 - (s + 1)).toNat < (12 - s).toNat
      omega
  · have e3_w : j_iop 0 (429 * (j : Int)) 355 = 429 * (j : Int) + 355 := jadd (by omega) (by omega)
    have e4_w : (429 * (j : Int) + 355).toNat = 429 * j + 355 := by omega
    rw [e3_w, e4_w]
    obtain ⟨z1, z2⟩ := st_QK a2 hJ (j := j) (i := 355) (v := 0) hj (by decide) (st_fit_ok (lo_w := 355) (hi_w := 356) (t := (1, 0, 16)) (by decide +kernel) (by decide) (by decide) ⟨by decide, by decide, in_0⟩) in_0
    refine ⟨⟨by omega, by omega⟩, ?_⟩
    refine w_lp (fun en h' => ∃ m z : Int, en = [182, 429 * (j : Int), R, m, z] ∧ 0 ≤ m ∧ m ≤ 6 ∧ QK P (r_T 0) J h' ∧ KR (r_T 0) h h' ∧ h' 194 (429 * j + 162) = R ∧ DA j h') (fun en _ => (6 - en.getD 3 0).toNat) ⟨0, z, rfl, by omega, by omega, z1, (q2_w.tr a3).tr z2, ?_, ?_⟩ ?_
    · rw [up_ne (fun z => by have := z.2; omega), a6]
      exact q3_w
    · intro k k' _ hk
      rw [up_eq] at hk
      omega
    rintro en h3 ⟨m, z, rfl, m0_w, m1_w, q4_w, q5_w, q6_w, q7_w⟩
    refine ⟨?_, ?_⟩
    · show (6 - m).toNat < K
      omega
    simp only [wf_4, wf_40, wf_5, wf_50, wf_6, wl_1, wt_1, wu_1, wa_1, wl_4, wt_4, wu_4, wa_4, wl_5, wt_5, wu_5, wa_5, wl_6, wt_6, wu_6, wa_6, wl_9, wt_9, wu_9, wa_9, wl_10, wt_10, wu_10, wa_10, wl_11, wt_11, wu_11, wa_11, wl_13, wt_13, wu_13, wa_13, wl_14, wt_14, wu_14, wa_14, wl_15, wt_15, wu_15, wa_15, wl_16, wt_16, wu_16, wa_16, wl_17, wt_17, wu_17, wa_17, wl_20, wt_20, wu_20, wa_20, wl_21, wt_21, wu_21, wa_21, wl_22, wt_22, wu_22, wa_22, wl_23, wt_23, wu_23, wa_23, wl_24, wt_24, wu_24, wa_24, wl_26, wt_26, wu_26, wa_26, wl_27, wt_27, wu_27, wa_27, wl_28, wt_28, wu_28, wa_28, we_1, we_3, we_10, we_14, we_15, we_16, we_17, we_18, we_20, we_21, we_22, we_24, we_25, we_26, we_27, we_28, we_30, we_31, we_32, wc_20, wc_21, wc_22, wc_24, wc_25, wc_26, wc_27, wc_3, wc_4, wc_7, wc_28, wc_32, ws_1, ws_2, ws_3, ws_4, ws_9, ws_10, ws_11, ws_14, ws_15, ws_16, ws_27, ws_17, ws_20, ws_28, kc_0, kc_1, kn_1, kc_2, kn_2, kc_3, kc_4, kc_5, kc_6, kc_7, kc_8, kc_9, kc_10, kc_12, kc_13, kc_14, kc_16, kc_17, kc_18, kc_19, kc_20, kc_21, kc_22, kc_24, kc_28, kc_30, kc_32, kc_37, kc_40, kc_41, kc_42, kc_43, kc_45, kc_48, kc_56, kc_57, kc_59, kc_60, kc_61, kc_64, kc_73, kc_78, kc_91, kc_95, kc_96, kc_97, kc_98, kc_99, kc_100, kc_112, kc_122, kc_125, kc_126, kc_150, kc_162, kc_163, kc_168, kc_186, kc_190, kc_200, kc_250, kc_255, kc_355, kc_356, kc_404, kc_405, kc_429, kc_573, kc_999, kc_1000, kc_1002, kc_1100, kc_1891, kc_2200, kc_4719, kc_4869, kc_4881, kc_5148, kc_9999, kn_9999, kc_10000, kc_12345, kc_19741, kc_25433, kc_65536, kc_320403, kc_628412, kc_629093, kc_660401, kc_679843, kc_918640, kc_979410, kc_1178088, kc_6232410, kc_24644941, kc_36238189, kc_38270444, kc_392531318, kc_425693491, kc_1103515245, kc_1342154595, kc_2147483648, kc_42328242873, kc_891704255789, kc_1722105685577, kc_1858726030364, ct_0, ct_1, ct_2, ct_3, ct_4, ct_5, cf_0, cf_1, cf_2, cf_3, cf_4, cf_5, w_ty6, w_ty7, m_sv, m_z0, m_hd, m_g0, m_gs, m_s0, m_ss, m_ap, m_an, forall_const, true_and, and_true, ne_eq, not_true_eq_false, not_false_eq_true, false_implies, true_implies, implies_true, eq_self, reduceCtorEq, Nat.reduceDiv, Nat.reduceMod, Int.reduceToNat, or_true, true_or, or_false, false_or, or_self, m_it, m_if, m_c1, m_01, m_02, m_03, m_04, m_10, m_12, m_13, m_14, m_20, m_21, m_23, m_24, m_30, m_31, m_32, m_34, m_40, m_41, m_42, m_43]
    obtain ⟨v2, h4, b1, b2, b3, b4, b5, b5'⟩ := use1 c228 rp_228 rr_228 q4_w il_this
    have b6 := fq hfr 194 b1 (by decide +kernel) rfl
    refine ⟨[v2], h4, b1, fun hm_w => ?_, fun hm_w => ?_⟩
    · simp only [m_hd] at hm_w
      have hmt : IV P (5, 0, 0) m := ⟨m0_w, by omega, by have := q_nM b2; omega⟩
      refine w_lp (fun en h' => ∃ s : Int, en = [182, 429 * (j : Int), R, m, s] ∧ 0 ≤ s ∧ s ≤ 12 ∧ QK P (r_T 0) J h' ∧ KR (r_T 0) h h' ∧ h' 194 (429 * j + 162) = R ∧ DA j h') (fun en _ => (12 - en.getD 4 0).toNat) ⟨0, rfl, by omega, by omega, b2, q5_w.tr b3, by rw [b6]; exact q6_w, q7_w.of b6⟩ ?_
      rintro en h5 ⟨s, rfl, s0, s1_w, q8_w, q9_w, q10_w, q11_w⟩
      refine ⟨?_, ?_⟩
      · show (12 - s).toNat < K
        omega
      simp only [wf_4, wf_40, wf_5, wf_50, wf_6, wl_1, wt_1, wu_1, wa_1, wl_4, wt_4, wu_4, wa_4, wl_5, wt_5, wu_5, wa_5, wl_6, wt_6, wu_6, wa_6, wl_9, wt_9, wu_9, wa_9, wl_10, wt_10, wu_10, wa_10, wl_11, wt_11, wu_11, wa_11, wl_13, wt_13, wu_13, wa_13, wl_14, wt_14, wu_14, wa_14, wl_15, wt_15, wu_15, wa_15, wl_16, wt_16, wu_16, wa_16, wl_17, wt_17, wu_17, wa_17, wl_20, wt_20, wu_20, wa_20, wl_21, wt_21, wu_21, wa_21, wl_22, wt_22, wu_22, wa_22, wl_23, wt_23, wu_23, wa_23, wl_24, wt_24, wu_24, wa_24, wl_26, wt_26, wu_26, wa_26, wl_27, wt_27, wu_27, wa_27, wl_28, wt_28, wu_28, wa_28, we_1, we_3, we_10, we_14, we_15, we_16, we_17, we_18, we_20, we_21, we_22, we_24, we_25, we_26, we_27, we_28, we_30, we_31, we_32, wc_20, wc_21, wc_22, wc_24, wc_25, wc_26, wc_27, wc_3, wc_4, wc_7, wc_28, wc_32, ws_1, ws_2, ws_3, ws_4, ws_9, ws_10, ws_11, ws_14, ws_15, ws_16, ws_27, ws_17, ws_20, ws_28, kc_0, kc_1, kn_1, kc_2, kn_2, kc_3, kc_4, kc_5, kc_6, kc_7, kc_8, kc_9, kc_10, kc_12, kc_13, kc_14, kc_16, kc_17, kc_18, kc_19, kc_20, kc_21, kc_22, kc_24, kc_28, kc_30, kc_32, kc_37, kc_40, kc_41, kc_42, kc_43, kc_45, kc_48, kc_56, kc_57, kc_59, kc_60, kc_61, kc_64, kc_73, kc_78, kc_91, kc_95, kc_96, kc_97, kc_98, kc_99, kc_100, kc_112, kc_122, kc_125, kc_126, kc_150, kc_162, kc_163, kc_168, kc_186, kc_190, kc_200, kc_250, kc_255, kc_355, kc_356, kc_404, kc_405, kc_429, kc_573, kc_999, kc_1000, kc_1002, kc_1100, kc_1891, kc_2200, kc_4719, kc_4869, kc_4881, kc_5148, kc_9999, kn_9999, kc_10000, kc_12345, kc_19741, kc_25433, kc_65536, kc_320403, kc_628412, kc_629093, kc_660401, kc_679843, kc_918640, kc_979410, kc_1178088, kc_6232410, kc_24644941, kc_36238189, kc_38270444, kc_392531318, kc_425693491, kc_1103515245, kc_1342154595, kc_2147483648, kc_42328242873, kc_891704255789, kc_1722105685577, kc_1858726030364, ct_0, ct_1, ct_2, ct_3, ct_4, ct_5, cf_0, cf_1, cf_2, cf_3, cf_4, cf_5, w_ty6, w_ty7, m_sv, m_z0, m_hd, m_g0, m_gs, m_s0, m_ss, m_ap, m_an, forall_const, true_and, and_true, ne_eq, not_true_eq_false, not_false_eq_true, false_implies, true_implies, implies_true, eq_self, reduceCtorEq, Nat.reduceDiv, Nat.reduceMod, Int.reduceToNat, or_true, true_or, or_false, false_or, or_self, m_it, m_if, m_c1, m_01, m_02, m_03, m_04, m_10, m_12, m_13, m_14, m_20, m_21, m_23, m_24, m_30, m_31, m_32, m_34, m_40, m_41, m_42, m_43]
      obtain ⟨v3, h6, d1_w, d2_w, d3_w, d4_w, d5, -⟩ := use1 c225 rp_225 rr_225 q8_w il_this
      have d6_w := fq hfr 194 d1_w (by decide +kernel) rfl
      refine ⟨[v3], h6, d1_w, fun hs => ?_, fun hs => ?_⟩
      · simp only [m_hd] at hs
        have hsl : IV P (1, 0, 11) s := ⟨s0, by omega, ⟨by omega, by omega⟩⟩
        obtain ⟨h7, x1_w, x2_w, x3⟩ := use0 (av := [182, 429 * (j : Int), s]) c254 rp_254 rr_254 d2_w ⟨rfl, hb_w, hsl, trivial⟩
        have x6 := fq hfr 194 x1_w (by decide +kernel) rfl
        obtain ⟨v4_w, h8, y1, y2, y3, y4⟩ := use1 (av := [182, 429 * (j : Int), m, s]) c256 rp_256 rr_256 x2_w ⟨rfl, hb_w, hmt, hsl, trivial⟩
        have y6 := fq hfr 194 y1 (by decide +kernel) rfl
        obtain ⟨v5, h9, w1_w, w2_w, w3_w, w4_w⟩ := use1 (av := [182, m]) c230 rp_230 rr_230 y2 ⟨rfl, hmt, trivial⟩
        have w6_w := fq hfr 194 w1_w (by decide +kernel) rfl
        have e9_w : h9 194 = h5 194 := by rw [w6_w, y6, x6, d6_w]
        obtain ⟨ha_w, u1, u2_w, u3, u4_w, u5⟩ := c269 h9 j v4_w v5 (h9 197 m.toNat) w2_w hj (q11_w.of e9_w) y4.1 y4.2.1 w4_w.1 (by have := w4_w.2; omega) (ht_int w2_w.1 (by decide) _)
        rw [jinc (by omega) (by omega)]
        refine ⟨[], h7, x1_w, [v4_w], h8, y1, [v5], h9, w1_w, ⟨by omega, by have := hmt.2; omega⟩, [], ha_w, u1, ⟨s + 1, rfl, by omega, by omega, u2_w, ((((q9_w.tr d3_w).tr x3).tr y3).tr w3_w).tr u3, ?_, u4_w⟩, ?_⟩
        · rw [u5 _ (Or.inl (by omega)), e9_w]
          exact q10_w
        · show (12 - (s + 1)).toNat < (12 - s).toNat
          omega
      · rw [jinc (by omega) (by omega)]
        refine ⟨⟨m + 1, s, rfl, by omega, by omega, d2_w, q9_w.tr d3_w, by rw [d6_w]; exact q10_w, q11_w.of d6_w⟩, ?_⟩
        show (6 - (m + 1)).toNat < (6 - m).toNat
        omega
    · rw [e1_w, e2_w]
      rw [show h4 194 (429 * j + 162) = R from by rw [b6]; exact q6_w, jadd (by omega) (by omega)]
      obtain ⟨z3, z4⟩ := st_QK b2 hJ (j := j) (i := 162) (v := R + 1) hj (by decide) (st_fit_ok (lo_w := 162) (hi_w := 163) (t := (1, 0, 4)) (by decide +kernel) (by decide) (by decide) ⟨by omega, by omega, ⟨by omega, by omega⟩⟩) ⟨by omega, by omega⟩
      exact ⟨⟨by omega, by omega⟩, z3, (q5_w.tr b3).tr z4⟩
end HA9
