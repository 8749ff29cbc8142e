/-! ===== the reference's methods by hand_w: use, stands, weights ===== -/
def S222 (P : Int × Int) (g : Nat × Nat) (F : XP) : Prop := ∀ (h : XH), QK P (r_T 0) (RJ P) h → 0 ≤ h 188 4 → ∃ v h', F 222 [182, h 188 4] ((a_g3, g), h) = some (1, [v], ((a_g3, g), h')) ∧ QK P (r_T 0) (RJ P) h' ∧ KR (r_T 0) h h' ∧ InI v
section HA4
variable {P : Int × Int} {g : Nat × Nat} {xs : Nat → Int} {L K n : Nat} {ck : Nat → List Nat} {cW : Nat → Nat → Int} {h : XH} {J : XH → Prop}
theorem iv_b0 : IV P (3, 0, 0) 0 := ⟨⟨by decide, by decide⟩, 0, by decide, by decide, by decide⟩
theorem t_249 (c244 : S244 P J g (evF xs L ck K cW g_M n)) (c245 : S245 P J g (evF xs L ck K cW g_M n)) (c248 : S248 P J g (evF xs L ck K cW g_M n)) (c229 : TotR P (r_T 0) J g (evF xs L ck K cW g_M n) 229) (c243 : TotR P (r_T 0) J g (evF xs L ck K cW g_M n) 243) : TotR P (r_T 0) J g (evF xs L ck K cW g_M (n + 1)) 249 := by
  refine tot_hand gm_249 rp_249 rr_249 ru_249 fun av h hQ hv => ?_
  obtain ⟨x, b, m, s, rfl, hx, hb_w, hm_w, hs⟩ := il4 hv
  obtain rfl : x = 182 := hx
  obtain ⟨s0, s1_w, -⟩ := hs
  show wS _ _ K bb_249 [182, b, m, s, 0, 0] h _
  generalize evF xs L ck K cW g_M n = F at c244 c245 c248 c229 c243 ⊢
  unfold bb_249
  simp only [wf_4, wf_40, wf_5, wf_50, wf_6, wl_1, wt_1, wu_1, wa_1, wl_4, wt_4, wu_4, wa_4, wl_5, wt_5, wu_5, wa_5, wl_6, wt_6, wu_6, wa_6, wl_9, wt_9, wu_9, wa_9, wl_10, wt_10, wu_10, wa_10, wl_11, wt_11, wu_11, wa_11, wl_13, wt_13, wu_13, wa_13, wl_14, wt_14, wu_14, wa_14, wl_15, wt_15, wu_15, wa_15, wl_16, wt_16, wu_16, wa_16, wl_17, wt_17, wu_17, wa_17, wl_20, wt_20, wu_20, wa_20, wl_21, wt_21, wu_21, wa_21, wl_22, wt_22, wu_22, wa_22, wl_23, wt_23, wu_23, wa_23, wl_24, wt_24, wu_24, wa_24, wl_26, wt_26, wu_26, wa_26, wl_27, wt_27, wu_27, wa_27, wl_28, wt_28, wu_28, wa_28, we_1, we_3, we_10, we_14, we_15, we_16, we_17, we_18, we_20, we_21, we_22, we_24, we_25, we_26, we_27, we_28, we_30, we_31, we_32, wc_20, wc_21, wc_22, wc_24, wc_25, wc_26, wc_27, wc_3, wc_4, wc_7, wc_28, wc_32, ws_1, ws_2, ws_3, ws_4, ws_9, ws_10, ws_11, ws_14, ws_15, ws_16, ws_27, ws_17, ws_20, ws_28, kc_0, kc_1, kn_1, kc_2, kn_2, kc_3, kc_4, kc_5, kc_6, kc_7, kc_8, kc_9, kc_10, kc_12, kc_13, kc_14, kc_16, kc_17, kc_18, kc_19, kc_20, kc_21, kc_22, kc_24, kc_28, kc_30, kc_32, kc_37, kc_40, kc_41, kc_42, kc_43, kc_45, kc_48, kc_56, kc_57, kc_59, kc_60, kc_61, kc_64, kc_73, kc_78, kc_91, kc_95, kc_96, kc_97, kc_98, kc_99, kc_100, kc_112, kc_122, kc_125, kc_126, kc_150, kc_162, kc_163, kc_168, kc_186, kc_190, kc_200, kc_250, kc_255, kc_355, kc_356, kc_404, kc_405, kc_429, kc_573, kc_999, kc_1000, kc_1002, kc_1100, kc_1891, kc_2200, kc_4719, kc_4869, kc_4881, kc_5148, kc_9999, kn_9999, kc_10000, kc_12345, kc_19741, kc_25433, kc_65536, kc_320403, kc_628412, kc_629093, kc_660401, kc_679843, kc_918640, kc_979410, kc_1178088, kc_6232410, kc_24644941, kc_36238189, kc_38270444, kc_392531318, kc_425693491, kc_1103515245, kc_1342154595, kc_2147483648, kc_42328242873, kc_891704255789, kc_1722105685577, kc_1858726030364, ct_0, ct_1, ct_2, ct_3, ct_4, ct_5, cf_0, cf_1, cf_2, cf_3, cf_4, cf_5, w_ty6, w_ty7, m_sv, m_z0, m_hd, m_g0, m_gs, m_s0, m_ss, m_ap, m_an, forall_const, true_and, and_true, ne_eq, not_true_eq_false, not_false_eq_true, false_implies, true_implies, implies_true, eq_self, reduceCtorEq, Nat.reduceDiv, Nat.reduceMod, Int.reduceToNat, or_true, true_or, or_false, false_or, or_self, m_it, m_if, m_c1, m_01, m_02, m_03, m_04, m_10, m_12, m_13, m_14, m_20, m_21, m_23, m_24, m_30, m_31, m_32, m_34, m_40, m_41, m_42, m_43]
  obtain ⟨v1_w, h1, a1_w, a2, a3, a4, a5⟩ := c244 h b m s hQ hb_w hm_w (by omega) (by omega)
  obtain ⟨v2, h2, b1, b2, b3, -⟩ := use1 (av := [182, m]) c229 rp_229 rr_229 a2 ⟨rfl, hm_w, trivial⟩
  refine ⟨[v1_w], h1, a1_w, [v2], h2, b1, fun k1_w => ⟨fun k2 => ?_, fun k2 => ?_⟩, fun k1_w => ?_⟩
  · obtain ⟨v3, h3, d1_w, d2_w, d3_w, -⟩ := use1 (av := [182, m]) c229 rp_229 rr_229 b2 ⟨rfl, hm_w, trivial⟩
    exact ⟨[v3], h3, d1_w, fun _ => ⟨d2_w, (a3.tr b3).tr d3_w, IV.top (in_j32 _), trivial⟩, fun _ => ⟨d2_w, (a3.tr b3).tr d3_w, IV.top in_0, trivial⟩⟩
  · simp only [m_hd] at k2
    obtain ⟨v3, h3, d1_w, d2_w, d3_w, d4_w⟩ := use1 c243 rp_243 rr_243 b2 (il_bmp hb_w hm_w k2 (show v1_w ≤ 12 by omega))
    obtain ⟨v4_w, h4, x1_w, x2_w, x3, -⟩ := use1 (av := [182, m]) c229 rp_229 rr_229 d2_w ⟨rfl, hm_w, trivial⟩
    exact ⟨[v3], h3, d1_w, [v4_w], h4, x1_w, fun _ => ⟨x2_w, ((a3.tr b3).tr d3_w).tr x3, IV.top (in_j32 _), trivial⟩, fun _ => ⟨x2_w, ((a3.tr b3).tr d3_w).tr x3, IV.top d4_w.2.2, trivial⟩⟩
  · obtain ⟨v3, h3, d1_w, d2_w, d3_w, d4_w⟩ := c245 h2 b m s b2 hb_w hm_w s0 (by omega)
    refine ⟨[v3], h3, d1_w, fun k2 => ⟨d2_w, (a3.tr b3).tr d3_w, IV.top in_0, trivial⟩, fun k2 => ⟨fun k3 => ⟨d2_w, (a3.tr b3).tr d3_w, IV.top in_0, trivial⟩, fun k3 => ?_⟩⟩
    simp only [m_hd] at k2 k3 ⊢
    rw [jadd (by omega) (by omega)]
    obtain ⟨v4_w, h4, x1_w, x2_w, x3, -⟩ := c248 h3 b m v1_w (s + 1) v3 d2_w hb_w hm_w k2 (by omega) (by omega) (by omega) (by omega)
    obtain ⟨v5, h5, y1, y2, y3, -⟩ := c248 h4 b m v1_w s v3 x2_w hb_w hm_w k2 (by omega) (by omega) (by omega) (by omega)
    exact ⟨[v4_w], h4, x1_w, [v5], h5, y1, y2, (((a3.tr b3).tr d3_w).tr x3).tr y3, IV.top (iop_in _ _ _), trivial⟩
theorem t_284 (hJ : JS (r_T 0) J) (c239 : TotR P (r_T 0) J g (evF xs L ck K cW g_M n) 239) (c244 : S244 P J g (evF xs L ck K cW g_M n)) (c245 : S245 P J g (evF xs L ck K cW g_M n)) (c248 : S248 P J g (evF xs L ck K cW g_M n)) (c229 : TotR P (r_T 0) J g (evF xs L ck K cW g_M n) 229) (c243 : TotR P (r_T 0) J g (evF xs L ck K cW g_M n) 243) : TotR P (r_T 0) J g (evF xs L ck K cW g_M (n + 1)) 284 := by
  refine tot_hand gm_284 rp_284 rr_284 ru_284 fun av h hQ hv => ?_
  obtain ⟨x, m, p, rfl, hx, hm0, hp0⟩ := il3 hv
  obtain rfl : x = 182 := hx
  show wS _ _ K bb_284 [182, m, p, 0, 0] h _
  generalize evF xs L ck K cW g_M n = F at c239 c244 c245 c248 c229 c243 ⊢
  unfold bb_284
  simp only [wf_4, wf_40, wf_5, wf_50, wf_6, wl_1, wt_1, wu_1, wa_1, wl_4, wt_4, wu_4, wa_4, wl_5, wt_5, wu_5, wa_5, wl_6, wt_6, wu_6, wa_6, wl_9, wt_9, wu_9, wa_9, wl_10, wt_10, wu_10, wa_10, wl_11, wt_11, wu_11, wa_11, wl_13, wt_13, wu_13, wa_13, wl_14, wt_14, wu_14, wa_14, wl_15, wt_15, wu_15, wa_15, wl_16, wt_16, wu_16, wa_16, wl_17, wt_17, wu_17, wa_17, wl_20, wt_20, wu_20, wa_20, wl_21, wt_21, wu_21, wa_21, wl_22, wt_22, wu_22, wa_22, wl_23, wt_23, wu_23, wa_23, wl_24, wt_24, wu_24, wa_24, wl_26, wt_26, wu_26, wa_26, wl_27, wt_27, wu_27, wa_27, wl_28, wt_28, wu_28, wa_28, we_1, we_3, we_10, we_14, we_15, we_16, we_17, we_18, we_20, we_21, we_22, we_24, we_25, we_26, we_27, we_28, we_30, we_31, we_32, wc_20, wc_21, wc_22, wc_24, wc_25, wc_26, wc_27, wc_3, wc_4, wc_7, wc_28, wc_32, ws_1, ws_2, ws_3, ws_4, ws_9, ws_10, ws_11, ws_14, ws_15, ws_16, ws_27, ws_17, ws_20, ws_28, kc_0, kc_1, kn_1, kc_2, kn_2, kc_3, kc_4, kc_5, kc_6, kc_7, kc_8, kc_9, kc_10, kc_12, kc_13, kc_14, kc_16, kc_17, kc_18, kc_19, kc_20, kc_21, kc_22, kc_24, kc_28, kc_30, kc_32, kc_37, kc_40, kc_41, kc_42, kc_43, kc_45, kc_48, kc_56, kc_57, kc_59, kc_60, kc_61, kc_64, kc_73, kc_78, kc_91, kc_95, kc_96, kc_97, kc_98, kc_99, kc_100, kc_112, kc_122, kc_125, kc_126, kc_150, kc_162, kc_163, kc_168, kc_186, kc_190, kc_200, kc_250, kc_255, kc_355, kc_356, kc_404, kc_405, kc_429, kc_573, kc_999, kc_1000, kc_1002, kc_1100, kc_1891, kc_2200, kc_4719, kc_4869, kc_4881, kc_5148, kc_9999, kn_9999, kc_10000, kc_12345, kc_19741, kc_25433, kc_65536, kc_320403, kc_628412, kc_629093, kc_660401, kc_679843, kc_918640, kc_979410, kc_1178088, kc_6232410, kc_24644941, kc_36238189, kc_38270444, kc_392531318, kc_425693491, kc_1103515245, kc_1342154595, kc_2147483648, kc_42328242873, kc_891704255789, kc_1722105685577, kc_1858726030364, ct_0, ct_1, ct_2, ct_3, ct_4, ct_5, cf_0, cf_1, cf_2, cf_3, cf_4, cf_5, w_ty6, w_ty7, m_sv, m_z0, m_hd, m_g0, m_gs, m_s0, m_ss, m_ap, m_an, forall_const, true_and, and_true, ne_eq, not_true_eq_false, not_false_eq_true, false_implies, true_implies, implies_true, eq_self, reduceCtorEq, Nat.reduceDiv, Nat.reduceMod, Int.reduceToNat, or_true, true_or, or_false, false_or, or_self, m_it, m_if, m_c1, m_01, m_02, m_03, m_04, m_10, m_12, m_13, m_14, m_20, m_21, m_23, m_24, m_30, m_31, m_32, m_34, m_40, m_41, m_42, m_43]
  obtain ⟨z1, z2⟩ := fd_QK hQ hJ (k := 0) (v := 0) (Or.inl rfl) ⟨by decide, by decide, in_0⟩
  obtain ⟨r, h1, a1_w, a2, a3, a4, a5⟩ := c239 [182, m, p] _ z1 (by rw [rp_239]; exact ⟨rfl, hm0, hp0, trivial⟩)
  rw [rr_239] at a4
  obtain ⟨v, rfl, -⟩ := IL.one a4
  refine ⟨[v], h1, a1_w, fun k1_w => ?_, fun k1_w => ⟨a2, z2.tr a3, IV.top ⟨by decide, by decide⟩, trivial⟩⟩
  have a6 := a5 k1_w
  rw [ru_239] at a6
  obtain ⟨-, hm_w, hp, -⟩ := a6
  obtain ⟨p0, p1_w, -⟩ := hp
  obtain ⟨v2, h2, b1, b2, b3, -⟩ := use1 (av := [182, m]) c229 rp_229 rr_229 a2 ⟨rfl, hm_w, trivial⟩
  refine ⟨[v2], h2, b1, fun k2 => ⟨b2, (z2.tr a3).tr b3, IV.top ⟨by decide, by decide⟩, trivial⟩, fun k2 => ?_⟩
  obtain ⟨v3, h3, d1_w, d2_w, d3_w, d4_w, d5⟩ := c244 h2 0 m p b2 iv_b0 hm_w (by omega) p1_w
  obtain ⟨v4_w, h4, x1_w, x2_w, x3, x4_w⟩ := c245 h3 0 m p d2_w iv_b0 hm_w p0 p1_w
  have kr := (((z2.tr a3).tr b3).tr d3_w).tr x3
  refine ⟨[v3], h3, d1_w, [v4_w], h4, x1_w, fun k3 => ?_, fun k3 => ⟨fun k4 => ⟨x2_w, kr, IV.top ⟨by decide, by decide⟩, trivial⟩, fun k4 => ⟨fun k5 => ⟨x2_w, kr, IV.top ⟨by decide, by decide⟩, trivial⟩, fun k5 => ?_⟩⟩⟩
  · obtain ⟨v5, h5, y1, y2, y3, y4⟩ := use1 c243 rp_243 rr_243 x2_w (il_bmp iv_b0 hm_w p0 p1_w)
    exact ⟨[v5], h5, y1, y2, kr.tr y3, IV.top y4.2.2, trivial⟩
  · simp only [m_hd] at k3 k4 k5 ⊢
    obtain ⟨v5, h5, y1, y2, y3, y4⟩ := use1 c243 rp_243 rr_243 x2_w (il_bmp iv_b0 hm_w k4 (show v3 ≤ 12 by omega))
    obtain ⟨v6, h6, w1_w, w2_w, w3_w, -⟩ := c248 h5 0 m v3 p v4_w y2 iv_b0 hm_w k4 (by omega) (by omega) p0 (by omega)
    exact ⟨[v5], h5, y1, [v6], h6, w1_w, by decide, w2_w, (kr.tr y3).tr w3_w, IV.top (tmod_i (iop_in _ _ _)), trivial⟩
/-- a cell_w of an array without_w blocks_w, all_w of whose cells_w may_w hold it -/
theorem un_QK (hQ : QK P (r_T 0) J h) (hJ : JS (r_T 0) J) {q i : Nat} {v : Int} {t : IT} (hW : r_W q = true) (hq : 183 ≤ q) (hr : (r_A q).2.2.all (fun r => i_sub t r.2.2) = true) (hv : IV P t v) (hH : HT g_fk a_g3 (j_up h q i v)) : QK P (r_T 0) J (j_up h q i v) ∧ KR (r_T 0) h (j_up h q i v) := by
  have hk : KR (r_T 0) h (j_up h q i v) := KR.up hW
  refine ⟨⟨hH, fun k => ?_, fun q' hq' => ?_, hJ _ _ hk hQ.2.2.2⟩, hk⟩
  · rw [up_ne (fun z => by omega)]
    exact hQ.2.1 k
  · by_cases e : q' = q
    · subst e
      intro r hr' a b k1_w k2 k3
      by_cases e2_w : (qA (r_T 0) q').2.1 * b + a = i
      · rw [e2_w, up_eq]
        exact IV.sub (List.all_eq_true.mp hr r hr') hv
      · rw [up_ne (fun z => e2_w z.2)]
        exact hQ.2.2.1 q' hq' r hr' a b k1_w k2 k3
    · have e2_w : j_up h q i v q' = h q' := funext fun i => up_ne (fun z => e z.1)
      rw [e2_w]
      exact hQ.2.2.1 q' hq'
theorem un_ok : [192, 193, 196, 197, 198, 199, 201].all (fun q => (r_A q).2.2.all (fun r => i_sub iT r.2.2) && r_W q) = true := by decide +kernel
theorem wi_QK (hQ : QK P (r_T 0) J h) (hJ : JS (r_T 0) J) {q i : Nat} {v : Int} (hq : q ∈ [192, 193, 196, 197, 198, 199, 201]) (hv : InI v) : QK P (r_T 0) J (j_up h q i v) ∧ KR (r_T 0) h (j_up h q i v) := by
  have h1 := List.all_eq_true.mp un_ok q hq
  rw [Bool.and_eq_true] at h1
  have h2 : 183 ≤ q ∧ q ∈ [183, 184, 185, 188, 189, 191, 192, 193, 194, 196, 197, 198, 199, 201] := by
    simp only [List.mem_cons, List.not_mem_nil, or_false] at hq ⊢
    omega
  exact un_QK hQ hJ h1.2 h2.1 h1.1 (IV.top hv) (ht_up hQ.1 h2.2 hv)
theorem code_get {f : Nat → Int} {i : Nat} {x : Int} {l : List Int} (hs : Seg f i (x :: l)) : f i = x ∧ Seg f (i + 1) l := by
  refine ⟨hs 0 (by simp), fun k hk => ?_⟩
  have := hs (k + 1) (by simpa using hk)
  rw [show i + 1 + k = i + (k + 1) by omega]
  exact this
theorem htO_cons {t : Nat} {x : Int} {l : List Int} {r : Nat} (h : htO t (x :: l) = some r) : 0 ≤ x ∧ x % 16 ≠ 0 ∧ ((x % 16 = 1 ∧ t < 63 ∧ htO (t + 1) l = some r) ∨ (x % 16 = 2 ∧ x < 64 ∧ t < 63 ∧ htO (t + 1) l = some r) ∨ (x % 16 = 3 ∧ 1 ≤ t ∧ htO t l = some r) ∨ (4 ≤ x % 16 ∧ 2 ≤ t ∧ htO (t - 1) l = some r)) := by
  unfold htO at h
  split at h
  · obtain ⟨h1, h⟩ := j_ifx h
    exact ⟨by omega, by omega, Or.inl ⟨by omega, h1, h⟩⟩
  · split at h
    · obtain ⟨h1, h⟩ := j_ifx h
      exact ⟨by omega, by omega, Or.inr (Or.inl ⟨by omega, by omega, h1, h⟩)⟩
    · split at h
      · obtain ⟨h1, h⟩ := j_ifx h
        exact ⟨by omega, by omega, Or.inr (Or.inr (Or.inl ⟨by omega, h1, h⟩))⟩
      · split at h
        · obtain ⟨h1, h⟩ := j_ifx h
          exact ⟨by omega, by omega, Or.inr (Or.inr (Or.inr ⟨by omega, h1, h⟩))⟩
        · cases h
theorem div16 {x : Int} (h : 0 ≤ x) : j_div 1 x 16 = x % 16 := Int.tmod_eq_emod_of_nonneg h
theorem quo16 {x : Int} (h : 0 ≤ x) (h2 : InI x) : j_div 0 x 16 = x / 16 := by
  show j32 (x.tdiv 16) = _
  rw [Int.tdiv_eq_ediv_of_nonneg h]
  unfold InI at h2
  exact j32_in ⟨by omega, by omega⟩
theorem s_222 (hK_w : 4294967300 ≤ K) (c223 : TotR P (r_T 0) (RJ P) g (evF xs L ck K cW g_M n) 223) : S222 P g (evF xs L ck K cW g_M (n + 1)) := fun h hQ h0 => by
  suffices hs : ∃ r h', evF xs L ck K cW g_M (n + 1) 222 [182, h 188 4] ((a_g3, g), h) = some (1, r, ((a_g3, g), h')) ∧ QK P (r_T 0) (RJ P) h' ∧ KR (r_T 0) h h' ∧ ∃ v, r = [v] ∧ InI v by
    obtain ⟨r, h', e1_w, e2_w, e3_w, v, rfl, e4_w⟩ := hs
    exact ⟨v, h', e1_w, e2_w, e3_w, e4_w⟩
  obtain ⟨l0, s1_w, s2_w, s3_w, s4_w⟩ := hQ.2.2.2.2.1 h0
  refine tr_of gm_222 (B := fun r h' => QK P (r_T 0) (RJ P) h' ∧ KR (r_T 0) h h' ∧ ∃ v, r = [v] ∧ InI v) ?_
  show wS _ _ K bb_222 [182, h 188 4, 0, h 188 4, 0] h _
  generalize h 188 4 = a at *
  generalize evF xs L ck K cW g_M n = F at c223 ⊢
  unfold bb_222
  simp only [wf_4, wf_40, wf_5, wf_50, wf_6, wl_1, wt_1, wu_1, wa_1, wl_4, wt_4, wu_4, wa_4, wl_5, wt_5, wu_5, wa_5, wl_6, wt_6, wu_6, wa_6, wl_9, wt_9, wu_9, wa_9, wl_10, wt_10, wu_10, wa_10, wl_11, wt_11, wu_11, wa_11, wl_13, wt_13, wu_13, wa_13, wl_14, wt_14, wu_14, wa_14, wl_15, wt_15, wu_15, wa_15, wl_16, wt_16, wu_16, wa_16, wl_17, wt_17, wu_17, wa_17, wl_20, wt_20, wu_20, wa_20, wl_21, wt_21, wu_21, wa_21, wl_22, wt_22, wu_22, wa_22, wl_23, wt_23, wu_23, wa_23, wl_24, wt_24, wu_24, wa_24, wl_26, wt_26, wu_26, wa_26, wl_27, wt_27, wu_27, wa_27, wl_28, wt_28, wu_28, wa_28, we_1, we_3, we_10, we_14, we_15, we_16, we_17, we_18, we_20, we_21, we_22, we_24, we_25, we_26, we_27, we_28, we_30, we_31, we_32, wc_20, wc_21, wc_22, wc_24, wc_25, wc_26, wc_27, wc_3, wc_4, wc_7, wc_28, wc_32, ws_1, ws_2, ws_3, ws_4, ws_9, ws_10, ws_11, ws_14, ws_15, ws_16, ws_27, ws_17, ws_20, ws_28, kc_0, kc_1, kn_1, kc_2, kn_2, kc_3, kc_4, kc_5, kc_6, kc_7, kc_8, kc_9, kc_10, kc_12, kc_13, kc_14, kc_16, kc_17, kc_18, kc_19, kc_20, kc_21, kc_22, kc_24, kc_28, kc_30, kc_32, kc_37, kc_40, kc_41, kc_42, kc_43, kc_45, kc_48, kc_56, kc_57, kc_59, kc_60, kc_61, kc_64, kc_73, kc_78, kc_91, kc_95, kc_96, kc_97, kc_98, kc_99, kc_100, kc_112, kc_122, kc_125, kc_126, kc_150, kc_162, kc_163, kc_168, kc_186, kc_190, kc_200, kc_250, kc_255, kc_355, kc_356, kc_404, kc_405, kc_429, kc_573, kc_999, kc_1000, kc_1002, kc_1100, kc_1891, kc_2200, kc_4719, kc_4869, kc_4881, kc_5148, kc_9999, kn_9999, kc_10000, kc_12345, kc_19741, kc_25433, kc_65536, kc_320403, kc_628412, kc_629093, kc_660401, kc_679843, kc_918640, kc_979410, kc_1178088, kc_6232410, kc_24644941, kc_36238189, kc_38270444, kc_392531318, kc_425693491, kc_1103515245, kc_1342154595, kc_2147483648, kc_42328242873, kc_891704255789, kc_1722105685577, kc_1858726030364, ct_0, ct_1, ct_2, ct_3, ct_4, ct_5, cf_0, cf_1, cf_2, cf_3, cf_4, cf_5, w_ty6, w_ty7, m_sv, m_z0, m_hd, m_g0, m_gs, m_s0, m_ss, m_ap, m_an, forall_const, true_and, and_true, ne_eq, not_true_eq_false, not_false_eq_true, false_implies, true_implies, implies_true, eq_self, reduceCtorEq, Nat.reduceDiv, Nat.reduceMod, Int.reduceToNat, or_true, true_or, or_false, false_or, or_self, m_it, m_if, m_c1, m_01, m_02, m_03, m_04, m_10, m_12, m_13, m_14, m_20, m_21, m_23, m_24, m_30, m_31, m_32, m_34, m_40, m_41, m_42, m_43]
  refine w_lp (fun en h' => ∃ (t i : Nat) (c : Int) (l : List Int), en = [182, a, (t : Int), (i : Int), c] ∧ Seg (h 189) i l ∧ h 189 (i + l.length) = 0 ∧ i + l.length < 1100 ∧ htO t l = some 1 ∧ t ≤ 63 ∧ QK P (r_T 0) (RJ P) h' ∧ KR (r_T 0) h h') (fun en _ => (1100 - en.getD 3 0).toNat) ⟨0, a.toNat, 0, l0, by rw [Int.toNat_of_nonneg h0]; rfl, s1_w, s2_w, s3_w, s4_w, by decide, hQ, KR.rf⟩ ?_
  rintro en h1 ⟨t, i, c, l, rfl, p1_w, p2_w, p3_w, p4_w, p5_w, q1_w, q2_w⟩
  refine ⟨?_, ?_⟩
  · show (1100 - (i : Int)).toNat < K
    omega
  simp only [wf_4, wf_40, wf_5, wf_50, wf_6, wl_1, wt_1, wu_1, wa_1, wl_4, wt_4, wu_4, wa_4, wl_5, wt_5, wu_5, wa_5, wl_6, wt_6, wu_6, wa_6, wl_9, wt_9, wu_9, wa_9, wl_10, wt_10, wu_10, wa_10, wl_11, wt_11, wu_11, wa_11, wl_13, wt_13, wu_13, wa_13, wl_14, wt_14, wu_14, wa_14, wl_15, wt_15, wu_15, wa_15, wl_16, wt_16, wu_16, wa_16, wl_17, wt_17, wu_17, wa_17, wl_20, wt_20, wu_20, wa_20, wl_21, wt_21, wu_21, wa_21, wl_22, wt_22, wu_22, wa_22, wl_23, wt_23, wu_23, wa_23, wl_24, wt_24, wu_24, wa_24, wl_26, wt_26, wu_26, wa_26, wl_27, wt_27, wu_27, wa_27, wl_28, wt_28, wu_28, wa_28, we_1, we_3, we_10, we_14, we_15, we_16, we_17, we_18, we_20, we_21, we_22, we_24, we_25, we_26, we_27, we_28, we_30, we_31, we_32, wc_20, wc_21, wc_22, wc_24, wc_25, wc_26, wc_27, wc_3, wc_4, wc_7, wc_28, wc_32, ws_1, ws_2, ws_3, ws_4, ws_9, ws_10, ws_11, ws_14, ws_15, ws_16, ws_27, ws_17, ws_20, ws_28, kc_0, kc_1, kn_1, kc_2, kn_2, kc_3, kc_4, kc_5, kc_6, kc_7, kc_8, kc_9, kc_10, kc_12, kc_13, kc_14, kc_16, kc_17, kc_18, kc_19, kc_20, kc_21, kc_22, kc_24, kc_28, kc_30, kc_32, kc_37, kc_40, kc_41, kc_42, kc_43, kc_45, kc_48, kc_56, kc_57, kc_59, kc_60, kc_61, kc_64, kc_73, kc_78, kc_91, kc_95, kc_96, kc_97, kc_98, kc_99, kc_100, kc_112, kc_122, kc_125, kc_126, kc_150, kc_162, kc_163, kc_168, kc_186, kc_190, kc_200, kc_250, kc_255, kc_355, kc_356, kc_404, kc_405, kc_429, kc_573, kc_999, kc_1000, kc_1002, kc_1100, kc_1891, kc_2200, kc_4719, kc_4869, kc_4881, kc_5148, kc_9999, kn_9999, kc_10000, kc_12345, kc_19741, kc_25433, kc_65536, kc_320403, kc_628412, kc_629093, kc_660401, kc_679843, kc_918640, kc_979410, kc_1178088, kc_6232410, kc_24644941, kc_36238189, kc_38270444, kc_392531318, kc_425693491, kc_1103515245, kc_1342154595, kc_2147483648, kc_42328242873, kc_891704255789, kc_1722105685577, kc_1858726030364, ct_0, ct_1, ct_2, ct_3, ct_4, ct_5, cf_0, cf_1, cf_2, cf_3, cf_4, cf_5, w_ty6, w_ty7, m_sv, m_z0, m_hd, m_g0, m_gs, m_s0, m_ss, m_ap, m_an, forall_const, true_and, and_true, ne_eq, not_true_eq_false, not_false_eq_true, false_implies, true_implies, implies_true, eq_self, reduceCtorEq, Nat.reduceDiv, Nat.reduceMod, Int.reduceToNat, or_true, true_or, or_false, false_or, or_self, m_it, m_if, m_c1, m_01, m_02, m_03, m_04, m_10, m_12, m_13, m_14, m_20, m_21, m_23, m_24, m_30, m_31, m_32, m_34, m_40, m_41, m_42, m_43, Int.toNat_natCast]
  have e9_w : h1 189 i = h 189 i := q2_w 189 i rfl
  rw [e9_w]
  cases l with
  | nil =>
    have e0 : h 189 i = 0 := p2_w
    rw [e0]
    have e1_w : j_div 1 0 16 = 0 := by decide
    rw [e1_w]
    exact ⟨⟨by omega, by have : i < 1100 := p3_w; omega⟩, by decide, fun k => absurd rfl k, fun _ => ⟨⟨by decide, by decide⟩, q1_w, q2_w, _, rfl, ht_int q1_w.1 (by decide) _⟩⟩
  | cons x l =>
    obtain ⟨e1_w, e2_w⟩ := code_get p1_w
    obtain ⟨x0_w, x1_w, x2_w⟩ := htO_cons p4_w
    have hx := ht_int hQ.1 (q := 189) (by decide) i
    rw [e1_w] at hx
    rw [e1_w, div16 x0_w, quo16 x0_w hx]
    rw [List.length_cons] at p2_w p3_w
    have p2' : h 189 (i + 1 + l.length) = 0 := by
      rw [show i + 1 + l.length = i + (l.length + 1) by omega]
      exact p2_w
    have bi : (0 ≤ (i : Int) ∧ (i : Int) < 2200) := ⟨by omega, by omega⟩
    have n16 : ¬(16 : Int) = 0 := by decide
    have fin_w : ∀ (t' : Nat) (T I : Int) (h2 : XH), T = (t' : Int) → I = j32 ((i : Int) + 1) → QK P (r_T 0) (RJ P) h2 → KR (r_T 0) h1 h2 → htO t' l = some 1 → t' ≤ 63 → (∃ (t_1 i_1 : Nat) (c : Int) (l : List Int), [182, a, T, I, x % 16] = [182, a, (t_1 : Int), (i_1 : Int), c] ∧ Seg (h 189) i_1 l ∧ h 189 (i_1 + l.length) = 0 ∧ i_1 + l.length < 1100 ∧ htO t_1 l = some 1 ∧ t_1 ≤ 63 ∧ QK P (r_T 0) (RJ P) h2 ∧ KR (r_T 0) h h2) ∧ (1100 - I).toNat < (1100 - (i : Int)).toNat := by
      intro t' T I h2 hT_w hI k1_w k2 k3 k4
      rw [jinc (by omega) (by omega)] at hI
      subst hT_w hI
      exact ⟨⟨t', i + 1, _, l, rfl, e2_w, p2', by omega, k3, k4, k1_w, q2_w.tr k2⟩, by omega⟩
    have bt : t < 63 → (0 ≤ (t : Int) ∧ (t : Int) < 64) := fun k => ⟨by omega, by omega⟩
    have w1_w := fun (p : Nat) (v : Int) (hv : InI v) => wi_QK (q := 193) (i := p) q1_w rj_js (by decide) hv
    refine ⟨bi, n16, fun _ => ⟨bi, n16, fun c1_w => ⟨fun _ => ?_, fun k => absurd c1_w k⟩, fun c1_w => ⟨fun c2 => ⟨fun k => absurd k c1_w, fun _ => ?_⟩, fun c2 => ⟨fun c3 => ?_, fun c3 => ?_⟩⟩⟩, fun k => absurd k x1_w⟩
    · obtain ⟨-, y2, y3⟩ | ⟨y1, -⟩ | ⟨y1, -⟩ | ⟨y1, -⟩ := x2_w
      · obtain ⟨z1, z2⟩ := w1_w t (x / 16) (by unfold InI at hx ⊢; omega)
        exact ⟨bi, n16, bt y2, fin_w (t + 1) _ _ _ (jinc (by omega) (by omega)) rfl z1 z2 y3 (by omega)⟩
      all_goals omega
    · obtain ⟨y1, -⟩ | ⟨-, y0, y2, y3⟩ | ⟨y1, -⟩ | ⟨y1, -⟩ := x2_w
      · omega
      · obtain ⟨z1, z2⟩ := w1_w t _ (ht_int q1_w.1 (q := 192) (by decide) (x / 16).toNat)
        exact ⟨bi, n16, ⟨by omega, by omega⟩, bt y2, fin_w (t + 1) _ _ _ (jinc (by omega) (by omega)) rfl z1 z2 y3 (by omega)⟩
      all_goals omega
    · obtain ⟨y1, -⟩ | ⟨y1, -⟩ | ⟨-, y2, y3⟩ | ⟨y1, -⟩ := x2_w
      · omega
      · omega
      · rw [jsub (x := (t : Int)) (y := 1) (by omega) (by omega)]
        have bt1 : (0 ≤ (t : Int) - 1 ∧ (t : Int) - 1 < 64) := ⟨by omega, by omega⟩
        obtain ⟨z1, z2⟩ := w1_w ((t : Int) - 1).toNat 1 ⟨by decide, by decide⟩
        obtain ⟨z3, z4⟩ := w1_w ((t : Int) - 1).toNat 0 in_0
        exact ⟨bt1, fun _ => ⟨bt1, fin_w t _ _ _ rfl rfl z1 z2 y3 p5_w⟩, fun _ => ⟨bt1, fin_w t _ _ _ rfl rfl z3 z4 y3 p5_w⟩⟩
      · omega
    · obtain ⟨y1, -⟩ | ⟨y1, -⟩ | ⟨y1, -⟩ | ⟨-, y2, y3⟩ := x2_w
      · omega
      · omega
      · omega
      · have et : j32 ((t : Int) + -1) = ((t - 1 : Nat) : Int) := by rw [jdec (by omega) (by omega)]; omega
        rw [et]
        rw [jsub (x := ((t - 1 : Nat) : Int)) (y := 1) (by omega) (by omega)]
        have bt1 : (0 ≤ ((t - 1 : Nat) : Int) - 1 ∧ ((t - 1 : Nat) : Int) - 1 < 64) := ⟨by omega, by omega⟩
        have bt2 : (0 ≤ ((t - 1 : Nat) : Int) ∧ ((t - 1 : Nat) : Int) < 64) := ⟨by omega, by omega⟩
        obtain ⟨v, h2, f1_w, f2_w, f3_w, f4_w⟩ := use1 (av := [x % 16, h1 193 (((t - 1 : Nat) : Int) - 1).toNat, h1 193 (((t - 1 : Nat) : Int)).toNat]) c223 rp_223 rr_223 q1_w ⟨IV.top ⟨by omega, by omega⟩, IV.top (ht_int q1_w.1 (by decide) _), IV.top (ht_int q1_w.1 (by decide) _), trivial⟩
        obtain ⟨z1, z2⟩ := wi_QK (q := 193) (i := (((t - 1 : Nat) : Int) - 1).toNat) f2_w rj_js (by decide) f4_w.2.2
        exact ⟨bt1, bt2, [v], h2, f1_w, bt1, fin_w (t - 1) _ _ _ rfl rfl z1 (f3_w.tr z2) y3 (by omega)⟩
theorem q_law (hQ : QK P (r_T 0) J h) : -1 ≤ h 188 4 ∧ h 188 4 ≤ 1099 := by
  have k : IV P (1, -1, 1099) (h 188 4) := q_cell hQ (q := 188) (r := 4) (x := (4, 5, (1, -1, 1099))) (by decide) rfl rfl (by decide) (by decide)
  exact ⟨k.1, k.2.1⟩
theorem t_253 (c231 : TotR P (r_T 0) (RJ P) g (evF xs L ck K cW g_M n) 231) (c252 : TotR P (r_T 0) (RJ P) g (evF xs L ck K cW g_M n) 252) (c222 : S222 P g (evF xs L ck K cW g_M n)) : TotR P (r_T 0) (RJ P) g (evF xs L ck K cW g_M (n + 1)) 253 := by
  refine tot_hand gm_253 rp_253 rr_253 ru_253 fun av h hQ hv => ?_
  obtain ⟨x, c, s, rfl, hx, hc_w, hs⟩ := il3 hv
  obtain rfl : x = 182 := hx
  have hs2 := hs.2.2
  show wS _ _ K bb_253 [182, c, s, 0] h _
  generalize evF xs L ck K cW g_M n = F at c231 c252 c222 ⊢
  unfold bb_253
  simp only [wf_4, wf_40, wf_5, wf_50, wf_6, wl_1, wt_1, wu_1, wa_1, wl_4, wt_4, wu_4, wa_4, wl_5, wt_5, wu_5, wa_5, wl_6, wt_6, wu_6, wa_6, wl_9, wt_9, wu_9, wa_9, wl_10, wt_10, wu_10, wa_10, wl_11, wt_11, wu_11, wa_11, wl_13, wt_13, wu_13, wa_13, wl_14, wt_14, wu_14, wa_14, wl_15, wt_15, wu_15, wa_15, wl_16, wt_16, wu_16, wa_16, wl_17, wt_17, wu_17, wa_17, wl_20, wt_20, wu_20, wa_20, wl_21, wt_21, wu_21, wa_21, wl_22, wt_22, wu_22, wa_22, wl_23, wt_23, wu_23, wa_23, wl_24, wt_24, wu_24, wa_24, wl_26, wt_26, wu_26, wa_26, wl_27, wt_27, wu_27, wa_27, wl_28, wt_28, wu_28, wa_28, we_1, we_3, we_10, we_14, we_15, we_16, we_17, we_18, we_20, we_21, we_22, we_24, we_25, we_26, we_27, we_28, we_30, we_31, we_32, wc_20, wc_21, wc_22, wc_24, wc_25, wc_26, wc_27, wc_3, wc_4, wc_7, wc_28, wc_32, ws_1, ws_2, ws_3, ws_4, ws_9, ws_10, ws_11, ws_14, ws_15, ws_16, ws_27, ws_17, ws_20, ws_28, kc_0, kc_1, kn_1, kc_2, kn_2, kc_3, kc_4, kc_5, kc_6, kc_7, kc_8, kc_9, kc_10, kc_12, kc_13, kc_14, kc_16, kc_17, kc_18, kc_19, kc_20, kc_21, kc_22, kc_24, kc_28, kc_30, kc_32, kc_37, kc_40, kc_41, kc_42, kc_43, kc_45, kc_48, kc_56, kc_57, kc_59, kc_60, kc_61, kc_64, kc_73, kc_78, kc_91, kc_95, kc_96, kc_97, kc_98, kc_99, kc_100, kc_112, kc_122, kc_125, kc_126, kc_150, kc_162, kc_163, kc_168, kc_186, kc_190, kc_200, kc_250, kc_255, kc_355, kc_356, kc_404, kc_405, kc_429, kc_573, kc_999, kc_1000, kc_1002, kc_1100, kc_1891, kc_2200, kc_4719, kc_4869, kc_4881, kc_5148, kc_9999, kn_9999, kc_10000, kc_12345, kc_19741, kc_25433, kc_65536, kc_320403, kc_628412, kc_629093, kc_660401, kc_679843, kc_918640, kc_979410, kc_1178088, kc_6232410, kc_24644941, kc_36238189, kc_38270444, kc_392531318, kc_425693491, kc_1103515245, kc_1342154595, kc_2147483648, kc_42328242873, kc_891704255789, kc_1722105685577, kc_1858726030364, ct_0, ct_1, ct_2, ct_3, ct_4, ct_5, cf_0, cf_1, cf_2, cf_3, cf_4, cf_5, w_ty6, w_ty7, m_sv, m_z0, m_hd, m_g0, m_gs, m_s0, m_ss, m_ap, m_an, forall_const, true_and, and_true, ne_eq, not_true_eq_false, not_false_eq_true, false_implies, true_implies, implies_true, eq_self, reduceCtorEq, Nat.reduceDiv, Nat.reduceMod, Int.reduceToNat, or_true, true_or, or_false, false_or, or_self, m_it, m_if, m_c1, m_01, m_02, m_03, m_04, m_10, m_12, m_13, m_14, m_20, m_21, m_23, m_24, m_30, m_31, m_32, m_34, m_40, m_41, m_42, m_43]
  have bc : 0 ≤ c ∧ c < 4 := ⟨hc_w.1, by have := hc_w.2; omega⟩
  have b0 : (0 : Int) ≤ 0 ∧ (0 : Int) < 4 := by decide
  have b1 : (0 : Int) ≤ 1 ∧ (1 : Int) < 4 := by decide
  have b2 : (0 : Int) ≤ 2 ∧ (2 : Int) < 4 := by decide
  have b3 : (0 : Int) ≤ 3 ∧ (3 : Int) < 4 := by decide
  have b4 : (0 : Int) ≤ 4 ∧ (4 : Int) < 190 := by decide
  obtain ⟨z1, z2⟩ := wi_QK (q := 192) (i := 0) hQ rj_js (by decide) (ht_int hQ.1 (q := 198) (by decide) c.toNat)
  obtain ⟨v1_w, h1, a1_w, a2, a3, a4⟩ := use1 (av := [182, c]) c231 rp_231 rr_231 z1 ⟨rfl, hc_w, trivial⟩
  obtain ⟨z3, z4⟩ := wi_QK (q := 192) (i := 1) a2 rj_js (by decide) a4.2.2
  obtain ⟨z5, z6⟩ := wi_QK (q := 192) (i := 2) z3 rj_js (by decide) hs2
  obtain ⟨v2, h2, d1_w, d2_w, d3_w, d4_w⟩ := use1 (av := [182, c]) c252 rp_252 rr_252 z5 ⟨rfl, IV.top ⟨by omega, by omega⟩, trivial⟩
  obtain ⟨z7, z8⟩ := wi_QK (q := 192) (i := 3) d2_w rj_js (by decide) d4_w.2.2
  refine ⟨bc, b0, [v1_w], h1, a1_w, b1, b2, [v2], h2, d1_w, b3, b4, ?_⟩
  have kr := ((((z2.tr a3).tr z4).tr z6).tr d3_w).tr z8
  have cl : ∀ (h' : XH) (v : Int), QK P (r_T 0) (RJ P) h' → KR (r_T 0) h h' → InI v → (1 : Nat) = 1 ∧ QK P (r_T 0) (RJ P) h' ∧ KR (r_T 0) h h' ∧ IL P [iT] [v] := fun h' v k1_w k2 k3 => ⟨rfl, k1_w, k2, IV.top k3, trivial⟩
  simp only [m_hd] at z7 z8 kr ⊢
  generalize j_up h2 192 3 v2 = h3 at z7 z8 kr ⊢
  have i0 : InI 0 := in_0
  have i9_w : InI 9999 := ⟨by decide, by decide⟩
  have iv_w := ht_int z7.1 (q := 198) (by decide) c.toNat
  refine ⟨fun k1_w => ⟨bc, b3, fun k2 => ⟨z7, kr, IV.top i0, trivial⟩, fun k2 => ⟨fun k3 => ⟨z7, kr, IV.top i0, trivial⟩, fun k3 => ⟨fun k4 => ⟨z7, kr, IV.top i9_w, trivial⟩, fun k4 => ⟨z7, kr, IV.top iv_w, trivial⟩⟩⟩⟩, fun k1_w => ⟨b4, ?_⟩⟩
  obtain ⟨v4_w, h4, x1_w, x2_w, x3, x4_w⟩ := c222 h3 z7 k1_w
  exact ⟨[v4_w], h4, x1_w, b3, fun k2 => ⟨x2_w, kr.tr x3, IV.top i0, trivial⟩, fun k2 => ⟨fun k3 => ⟨x2_w, kr.tr x3, IV.top i0, trivial⟩, fun k3 => ⟨fun k4 => ⟨x2_w, kr.tr x3, IV.top i9_w, trivial⟩, fun k4 => ⟨x2_w, kr.tr x3, IV.top x4_w, trivial⟩⟩⟩⟩
end HA4
