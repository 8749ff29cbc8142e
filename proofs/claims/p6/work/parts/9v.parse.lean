/-! ===== the reference's parser: a grid ===== -/
def B206 (r : List Int) (h' : XH) : Prop := ∃ v, r = [v] ∧ InI v ∧ LQ h'
section PARK
variable {P : Int × Int} {N : Nat} {g : Nat × Nat} {xs : Nat → Int} {L K n : Nat} {ck : Nat → List Nat} {cW : Nat → Nat → Int} {h h' h1 h2 : XH} {F : XP}
theorem t_206 (hK_w : 4294967300 ≤ K) (c190 : G190 P g (evF xs L ck K cW g_M n)) (c194 : ∀ N, G194 P N g (evF xs L ck K cW g_M n)) (c199 : G199 P g (evF xs L ck K cW g_M n)) (c210 : ∀ N, G210 P N g (evF xs L ck K cW g_M n)) (c241 : ∀ (P'_w : Int × Int) (h : XH), QK P'_w (r_T 0) JT h → GridOK (h 188) 0 P'_w.1 P'_w.2 → (0 ≤ h 188 4 → CodeOK (h 189) (h 188 4).toNat) → ∃ r h', evF xs L ck K cW g_M n 241 [182] ((a_g3, g), h) = some (1, r, ((a_g3, g), h')) ∧ B241 P'_w h r h') (hQ : QK P (r_T 0) (RJ P) h) (hD : DG h) (h0 : 0 ≤ h 182 12) (h1 : h 182 12 ≤ 1001) : ∃ r h', evF xs L ck K cW g_M (n + 1) 206 [182] ((a_g3, g), h) = some (1, r, ((a_g3, g), h')) ∧ B206 r h' := by
  refine tr_of gm_206 ?_
  show wS _ _ K bb_206 [182, 0] h _
  generalize evF xs L ck K cW g_M n = F at c190 c194 c199 c210 c241 ⊢
  unfold bb_206
  simp only [wf_4, wf_40, wf_5, wf_50, wf_6, wl_1, wt_1, wu_1, wa_1, wl_4, wt_4, wu_4, wa_4, wl_5, wt_5, wu_5, wa_5, wl_6, wt_6, wu_6, wa_6, wl_9, wt_9, wu_9, wa_9, wl_10, wt_10, wu_10, wa_10, wl_11, wt_11, wu_11, wa_11, wl_13, wt_13, wu_13, wa_13, wl_14, wt_14, wu_14, wa_14, wl_15, wt_15, wu_15, wa_15, wl_16, wt_16, wu_16, wa_16, wl_17, wt_17, wu_17, wa_17, wl_20, wt_20, wu_20, wa_20, wl_21, wt_21, wu_21, wa_21, wl_22, wt_22, wu_22, wa_22, wl_23, wt_23, wu_23, wa_23, wl_24, wt_24, wu_24, wa_24, wl_26, wt_26, wu_26, wa_26, wl_27, wt_27, wu_27, wa_27, wl_28, wt_28, wu_28, wa_28, we_1, we_3, we_10, we_14, we_15, we_16, we_17, we_18, we_20, we_21, we_22, we_24, we_25, we_26, we_27, we_28, we_30, we_31, we_32, wc_20, wc_21, wc_22, wc_24, wc_25, wc_26, wc_27, wc_3, wc_4, wc_7, wc_28, wc_32, ws_1, ws_2, ws_3, ws_4, ws_9, ws_10, ws_11, ws_14, ws_15, ws_16, ws_27, ws_17, ws_20, ws_28, kc_0, kc_1, kn_1, kc_2, kn_2, kc_3, kc_4, kc_5, kc_6, kc_7, kc_8, kc_9, kc_10, kc_12, kc_13, kc_14, kc_16, kc_17, kc_18, kc_19, kc_20, kc_21, kc_22, kc_24, kc_28, kc_30, kc_32, kc_37, kc_40, kc_41, kc_42, kc_43, kc_45, kc_48, kc_56, kc_57, kc_59, kc_60, kc_61, kc_64, kc_73, kc_78, kc_91, kc_95, kc_96, kc_97, kc_98, kc_99, kc_100, kc_112, kc_122, kc_125, kc_126, kc_150, kc_162, kc_163, kc_168, kc_186, kc_190, kc_200, kc_250, kc_255, kc_355, kc_356, kc_404, kc_405, kc_429, kc_573, kc_999, kc_1000, kc_1002, kc_1100, kc_1891, kc_2200, kc_4719, kc_4869, kc_4881, kc_5148, kc_9999, kn_9999, kc_10000, kc_12345, kc_19741, kc_25433, kc_65536, kc_320403, kc_628412, kc_629093, kc_660401, kc_679843, kc_918640, kc_979410, kc_1178088, kc_6232410, kc_24644941, kc_36238189, kc_38270444, kc_392531318, kc_425693491, kc_1103515245, kc_1342154595, kc_2147483648, kc_42328242873, kc_891704255789, kc_1722105685577, kc_1858726030364, ct_0, ct_1, ct_2, ct_3, ct_4, ct_5, cf_0, cf_1, cf_2, cf_3, cf_4, cf_5, w_ty6, w_ty7, m_sv, m_z0, m_hd, m_g0, m_gs, m_s0, m_ss, m_ap, m_an, forall_const, true_and, and_true, ne_eq, not_true_eq_false, not_false_eq_true, false_implies, true_implies, implies_true, eq_self, reduceCtorEq, Nat.reduceDiv, Nat.reduceMod, Int.reduceToNat, or_true, true_or, or_false, false_or, or_self, m_it, m_if, m_c1, m_01, m_02, m_03, m_04, m_10, m_12, m_13, m_14, m_20, m_21, m_23, m_24, m_30, m_31, m_32, m_34, m_40, m_41, m_42, m_43]
  have q0 : QK P (r_T 0) (RJ P) (j_up h 182 0 0) := (fd_QK hQ rj_js (k := 0) (Or.inl rfl) ⟨by decide, by decide, in_0⟩).1
  have e12_w : j_up h 182 0 0 182 12 = h 182 12 := up_ne (fun z => absurd z.2 (by decide))
  have d0_w : DG (j_up h 182 0 0) := DG.up hQ hD (up_ne (fun z => absurd z.1 (by decide))) (up_ne (fun z => absurd z.1 (by decide))) (fun m _ => up_ne (fun z => absurd z.1 (by decide))) (fun m _ => up_ne (fun z => absurd z.1 (by decide)))
  obtain ⟨N, h2, x2_w, p2_w, at2_w, fr2⟩ := c190 _ q0 d0_w (by rw [e12_w]; exact h0) (by rw [e12_w]; exact h1)
  replace c194 := c194 N
  replace c210 := c210 N
  have q2_w : QK P (r_T 0) (RJ P) (j_up h2 182 12 0) := (fd_QK p2_w.1 rj_js (k := 12) (Or.inl rfl) (IV.top in_0)).1
  obtain ⟨h3, x3, q3_w, f3_w, z3, n3_w⟩ := c199 _ q2_w
  obtain ⟨p2q, ⟨t1_w, t2_w, t3_w, t4_w, t5_w, t6, t7, t8⟩, p2d⟩ := p2_w
  have o3_w : ∀ o k : Nat, (o = 182 → k ≠ 12) → (o ≠ 188) → h3 o k = h2 o k := fun o k z1 z2 => (f3_w o k (fun z => absurd z z2)).trans (up_ne (fun z => z1 z.1 z.2))
  have c3 : h3 182 12 = 0 := (f3_w 182 12 (fun z => absurd z (by decide))).trans up_eq
  have a3 : h3 182 7 = 0 := (o3_w 182 7 (fun _ => by decide) (by decide)).trans at2_w
  have dr3 : DR P N h3 := by
    refine ⟨⟨q3_w, ⟨?_, ?_, ?_, t4_w, ?_, ?_, ?_, fun i hi_w hs => ?_⟩, fun m hm_w => ?_, fun c hc_w => ?_⟩, ?_, Or.inl n3_w⟩
    · rw [o3_w 182 8 (fun _ => by decide) (by decide)]
      exact t1_w
    · omega
    · omega
    · rw [o3_w 184 N (fun z => absurd z (by decide)) (by decide)]
      exact t5_w
    · omega
    · omega
    · rw [o3_w 184 i (fun z => absurd z (by decide)) (by decide)] at hs
      rw [o3_w 186 i (fun z => absurd z (by decide)) (by decide)]
      exact t8 i hi_w hs
    · rw [z3 98 (by decide) (by decide) (by decide)] at hm_w
      omega
    · rw [z3 96 (by decide) (by decide) (by decide)] at hc_w
      omega
    · omega
  refine ⟨[], h2, x2_w, [], h3, x3, ?_⟩
  refine w_lp (fun en h' => en = [182, 0] ∧ DR P N h') (fun _ h' => 2 * ((N : Int) - h' 182 7).toNat + (if h' 182 8 = 0 then 1 else 0)) ⟨rfl, dr3⟩ ?_
  rintro en h4 ⟨rfl, r4⟩
  obtain ⟨p4_w, c4, l4⟩ := id r4
  obtain ⟨p4q, ⟨s1_w, s2_w, s3_w, s4_w, s5, s6_w, s7, s8⟩, p4d⟩ := id p4_w
  refine ⟨?_, ?_⟩
  · show 2 * ((N : Int) - h4 182 7).toNat + (if h4 182 8 = 0 then 1 else 0) < K
    split <;> omega
  simp only [wf_4, wf_40, wf_5, wf_50, wf_6, wl_1, wt_1, wu_1, wa_1, wl_4, wt_4, wu_4, wa_4, wl_5, wt_5, wu_5, wa_5, wl_6, wt_6, wu_6, wa_6, wl_9, wt_9, wu_9, wa_9, wl_10, wt_10, wu_10, wa_10, wl_11, wt_11, wu_11, wa_11, wl_13, wt_13, wu_13, wa_13, wl_14, wt_14, wu_14, wa_14, wl_15, wt_15, wu_15, wa_15, wl_16, wt_16, wu_16, wa_16, wl_17, wt_17, wu_17, wa_17, wl_20, wt_20, wu_20, wa_20, wl_21, wt_21, wu_21, wa_21, wl_22, wt_22, wu_22, wa_22, wl_23, wt_23, wu_23, wa_23, wl_24, wt_24, wu_24, wa_24, wl_26, wt_26, wu_26, wa_26, wl_27, wt_27, wu_27, wa_27, wl_28, wt_28, wu_28, wa_28, we_1, we_3, we_10, we_14, we_15, we_16, we_17, we_18, we_20, we_21, we_22, we_24, we_25, we_26, we_27, we_28, we_30, we_31, we_32, wc_20, wc_21, wc_22, wc_24, wc_25, wc_26, wc_27, wc_3, wc_4, wc_7, wc_28, wc_32, ws_1, ws_2, ws_3, ws_4, ws_9, ws_10, ws_11, ws_14, ws_15, ws_16, ws_27, ws_17, ws_20, ws_28, kc_0, kc_1, kn_1, kc_2, kn_2, kc_3, kc_4, kc_5, kc_6, kc_7, kc_8, kc_9, kc_10, kc_12, kc_13, kc_14, kc_16, kc_17, kc_18, kc_19, kc_20, kc_21, kc_22, kc_24, kc_28, kc_30, kc_32, kc_37, kc_40, kc_41, kc_42, kc_43, kc_45, kc_48, kc_56, kc_57, kc_59, kc_60, kc_61, kc_64, kc_73, kc_78, kc_91, kc_95, kc_96, kc_97, kc_98, kc_99, kc_100, kc_112, kc_122, kc_125, kc_126, kc_150, kc_162, kc_163, kc_168, kc_186, kc_190, kc_200, kc_250, kc_255, kc_355, kc_356, kc_404, kc_405, kc_429, kc_573, kc_999, kc_1000, kc_1002, kc_1100, kc_1891, kc_2200, kc_4719, kc_4869, kc_4881, kc_5148, kc_9999, kn_9999, kc_10000, kc_12345, kc_19741, kc_25433, kc_65536, kc_320403, kc_628412, kc_629093, kc_660401, kc_679843, kc_918640, kc_979410, kc_1178088, kc_6232410, kc_24644941, kc_36238189, kc_38270444, kc_392531318, kc_425693491, kc_1103515245, kc_1342154595, kc_2147483648, kc_42328242873, kc_891704255789, kc_1722105685577, kc_1858726030364, ct_0, ct_1, ct_2, ct_3, ct_4, ct_5, cf_0, cf_1, cf_2, cf_3, cf_4, cf_5, w_ty6, w_ty7, m_sv, m_z0, m_hd, m_g0, m_gs, m_s0, m_ss, m_ap, m_an, forall_const, true_and, and_true, ne_eq, not_true_eq_false, not_false_eq_true, false_implies, true_implies, implies_true, eq_self, reduceCtorEq, Nat.reduceDiv, Nat.reduceMod, Int.reduceToNat, or_true, true_or, or_false, false_or, or_self, m_it, m_if, m_c1, m_01, m_02, m_03, m_04, m_10, m_12, m_13, m_14, m_20, m_21, m_23, m_24, m_30, m_31, m_32, m_34, m_40, m_41, m_42, m_43]
  have ba_w : 0 ≤ h4 182 7 ∧ h4 182 7 < 1002 := ⟨s2_w, by omega⟩
  refine ⟨fun z4 => ⟨ba_w, fun hs => ?_, fun hs => ⟨fun z => by omega, fun _ => ?_⟩⟩, fun z4 => ⟨fun _ => ⟨_, rfl, ht_fld p4_w.1 rfl, P, p4q, p4d, by omega, by omega⟩, fun z => by omega⟩⟩
  · obtain ⟨h5, y1, r5_w, at5_w⟩ := c210 h4 r4 z4
    obtain ⟨h6, w1_w, w2_w, w3_w, w4_w⟩ := c194 h5 59 r5_w.1 ⟨by decide, by decide⟩
    have d6_w := r5_w.pf (r5_w.1.pa w2_w) w2_w.pf
    refine ⟨[], h5, y1, [], h6, w1_w, d6_w.2.1, ?_⟩
    show 2 * ((N : Int) - h6 182 7).toNat + (if h6 182 8 = 0 then 1 else 0) < 2 * ((N : Int) - h4 182 7).toNat + (if h4 182 8 = 0 then 1 else 0)
    rw [if_pos z4]
    by_cases t : tkS h5 59
    · have e5_w := w3_w t
      have e7_w : h6 182 7 = h5 182 7 + 1 := by
        rw [e5_w]
        exact up_eq
      have n5_w := w2_w.2.2.2.2.2
      split <;> omega
    · obtain ⟨k1_w, k2, -⟩ := w4_w t
      rw [if_neg k2]
      omega
  · refine w_lp (fun en h' => ∃ k : Nat, en = [182, (k : Int)] ∧ k ≤ 95 ∧ HT g_fk a_g3 h' ∧ (∀ o i : Nat, (o = 188 → k ≤ i) → h' o i = h4 o i) ∧ ∀ i, i < k → h' 188 i = h4 188 (95 + i)) (fun en _ => 95 - (en.getD 1 0).toNat) ⟨0, rfl, by decide, p4q.1, fun _ _ _ => rfl, fun i hi_w => by omega⟩ ?_
    rintro en h5 ⟨k, rfl, k95, H5, o5_w, n5_w⟩
    refine ⟨by show 95 - ((k : Int)).toNat < K; omega, ?_⟩
    simp only [wf_4, wf_40, wf_5, wf_50, wf_6, wl_1, wt_1, wu_1, wa_1, wl_4, wt_4, wu_4, wa_4, wl_5, wt_5, wu_5, wa_5, wl_6, wt_6, wu_6, wa_6, wl_9, wt_9, wu_9, wa_9, wl_10, wt_10, wu_10, wa_10, wl_11, wt_11, wu_11, wa_11, wl_13, wt_13, wu_13, wa_13, wl_14, wt_14, wu_14, wa_14, wl_15, wt_15, wu_15, wa_15, wl_16, wt_16, wu_16, wa_16, wl_17, wt_17, wu_17, wa_17, wl_20, wt_20, wu_20, wa_20, wl_21, wt_21, wu_21, wa_21, wl_22, wt_22, wu_22, wa_22, wl_23, wt_23, wu_23, wa_23, wl_24, wt_24, wu_24, wa_24, wl_26, wt_26, wu_26, wa_26, wl_27, wt_27, wu_27, wa_27, wl_28, wt_28, wu_28, wa_28, we_1, we_3, we_10, we_14, we_15, we_16, we_17, we_18, we_20, we_21, we_22, we_24, we_25, we_26, we_27, we_28, we_30, we_31, we_32, wc_20, wc_21, wc_22, wc_24, wc_25, wc_26, wc_27, wc_3, wc_4, wc_7, wc_28, wc_32, ws_1, ws_2, ws_3, ws_4, ws_9, ws_10, ws_11, ws_14, ws_15, ws_16, ws_27, ws_17, ws_20, ws_28, kc_0, kc_1, kn_1, kc_2, kn_2, kc_3, kc_4, kc_5, kc_6, kc_7, kc_8, kc_9, kc_10, kc_12, kc_13, kc_14, kc_16, kc_17, kc_18, kc_19, kc_20, kc_21, kc_22, kc_24, kc_28, kc_30, kc_32, kc_37, kc_40, kc_41, kc_42, kc_43, kc_45, kc_48, kc_56, kc_57, kc_59, kc_60, kc_61, kc_64, kc_73, kc_78, kc_91, kc_95, kc_96, kc_97, kc_98, kc_99, kc_100, kc_112, kc_122, kc_125, kc_126, kc_150, kc_162, kc_163, kc_168, kc_186, kc_190, kc_200, kc_250, kc_255, kc_355, kc_356, kc_404, kc_405, kc_429, kc_573, kc_999, kc_1000, kc_1002, kc_1100, kc_1891, kc_2200, kc_4719, kc_4869, kc_4881, kc_5148, kc_9999, kn_9999, kc_10000, kc_12345, kc_19741, kc_25433, kc_65536, kc_320403, kc_628412, kc_629093, kc_660401, kc_679843, kc_918640, kc_979410, kc_1178088, kc_6232410, kc_24644941, kc_36238189, kc_38270444, kc_392531318, kc_425693491, kc_1103515245, kc_1342154595, kc_2147483648, kc_42328242873, kc_891704255789, kc_1722105685577, kc_1858726030364, ct_0, ct_1, ct_2, ct_3, ct_4, ct_5, cf_0, cf_1, cf_2, cf_3, cf_4, cf_5, w_ty6, w_ty7, m_sv, m_z0, m_hd, m_g0, m_gs, m_s0, m_ss, m_ap, m_an, forall_const, true_and, and_true, ne_eq, not_true_eq_false, not_false_eq_true, false_implies, true_implies, implies_true, eq_self, reduceCtorEq, Nat.reduceDiv, Nat.reduceMod, Int.reduceToNat, or_true, true_or, or_false, false_or, or_self, m_it, m_if, m_c1, m_01, m_02, m_03, m_04, m_10, m_12, m_13, m_14, m_20, m_21, m_23, m_24, m_30, m_31, m_32, m_34, m_40, m_41, m_42, m_43]
    refine ⟨fun hk => ?_, fun hk => ?_⟩
    · rw [jadd (x := 95) (y := (k : Int)) (by omega) (by omega), jinc (by omega) (by omega), show (95 + (k : Int)).toNat = 95 + k by omega, Int.toNat_natCast]
      refine ⟨⟨by omega, by omega⟩, ⟨by omega, by omega⟩, ⟨k + 1, rfl, by omega, ht_up H5 (by decide) (ht_int H5 (by decide) _), fun o i e => ?_, fun i hi_w => ?_⟩, by show 95 - ((k : Int) + 1).toNat < 95 - ((k : Int)).toNat; omega⟩
      · rw [up_ne (fun z => by have := e z.1; have := z.2; omega)]
        exact o5_w o i (fun z => by have := e z; omega)
      · by_cases e : i = k
        · rw [e, up_eq]
          exact o5_w 188 _ (fun _ => by omega)
        · rw [up_ne (fun z => e z.2)]
          exact n5_w i (by omega)
    · obtain rfl : k = 95 := by omega
      obtain ⟨m, hm_w⟩ : ∃ m : Nat, h4 182 12 = (m : Int) := ⟨(h4 182 12).toNat, by omega⟩
      refine w_lp (fun en h' => ∃ k : Nat, en = [182, (k : Int)] ∧ k ≤ m ∧ HT g_fk a_g3 h' ∧ (∀ o i : Nat, (o = 188 → 95 ≤ i) → (o = 189 → k ≤ i) → h' o i = h4 o i) ∧ (∀ i, i < 95 → h' 188 i = h4 188 (95 + i)) ∧ ∀ i, i < k → h' 189 i = h4 189 (1100 + i)) (fun en _ => m - (en.getD 1 0).toNat) ⟨0, rfl, by omega, H5, fun o i e _ => o5_w o i e, n5_w, fun i hi_w => by omega⟩ ?_
      rintro en h6 ⟨k, rfl, km, H6, o6, n6_w, m6_w⟩
      refine ⟨by show m - ((k : Int)).toNat < K; omega, ?_⟩
      simp only [wf_4, wf_40, wf_5, wf_50, wf_6, wl_1, wt_1, wu_1, wa_1, wl_4, wt_4, wu_4, wa_4, wl_5, wt_5, wu_5, wa_5, wl_6, wt_6, wu_6, wa_6, wl_9, wt_9, wu_9, wa_9, wl_10, wt_10, wu_10, wa_10, wl_11, wt_11, wu_11, wa_11, wl_13, wt_13, wu_13, wa_13, wl_14, wt_14, wu_14, wa_14, wl_15, wt_15, wu_15, wa_15, wl_16, wt_16, wu_16, wa_16, wl_17, wt_17, wu_17, wa_17, wl_20, wt_20, wu_20, wa_20, wl_21, wt_21, wu_21, wa_21, wl_22, wt_22, wu_22, wa_22, wl_23, wt_23, wu_23, wa_23, wl_24, wt_24, wu_24, wa_24, wl_26, wt_26, wu_26, wa_26, wl_27, wt_27, wu_27, wa_27, wl_28, wt_28, wu_28, wa_28, we_1, we_3, we_10, we_14, we_15, we_16, we_17, we_18, we_20, we_21, we_22, we_24, we_25, we_26, we_27, we_28, we_30, we_31, we_32, wc_20, wc_21, wc_22, wc_24, wc_25, wc_26, wc_27, wc_3, wc_4, wc_7, wc_28, wc_32, ws_1, ws_2, ws_3, ws_4, ws_9, ws_10, ws_11, ws_14, ws_15, ws_16, ws_27, ws_17, ws_20, ws_28, kc_0, kc_1, kn_1, kc_2, kn_2, kc_3, kc_4, kc_5, kc_6, kc_7, kc_8, kc_9, kc_10, kc_12, kc_13, kc_14, kc_16, kc_17, kc_18, kc_19, kc_20, kc_21, kc_22, kc_24, kc_28, kc_30, kc_32, kc_37, kc_40, kc_41, kc_42, kc_43, kc_45, kc_48, kc_56, kc_57, kc_59, kc_60, kc_61, kc_64, kc_73, kc_78, kc_91, kc_95, kc_96, kc_97, kc_98, kc_99, kc_100, kc_112, kc_122, kc_125, kc_126, kc_150, kc_162, kc_163, kc_168, kc_186, kc_190, kc_200, kc_250, kc_255, kc_355, kc_356, kc_404, kc_405, kc_429, kc_573, kc_999, kc_1000, kc_1002, kc_1100, kc_1891, kc_2200, kc_4719, kc_4869, kc_4881, kc_5148, kc_9999, kn_9999, kc_10000, kc_12345, kc_19741, kc_25433, kc_65536, kc_320403, kc_628412, kc_629093, kc_660401, kc_679843, kc_918640, kc_979410, kc_1178088, kc_6232410, kc_24644941, kc_36238189, kc_38270444, kc_392531318, kc_425693491, kc_1103515245, kc_1342154595, kc_2147483648, kc_42328242873, kc_891704255789, kc_1722105685577, kc_1858726030364, ct_0, ct_1, ct_2, ct_3, ct_4, ct_5, cf_0, cf_1, cf_2, cf_3, cf_4, cf_5, w_ty6, w_ty7, m_sv, m_z0, m_hd, m_g0, m_gs, m_s0, m_ss, m_ap, m_an, forall_const, true_and, and_true, ne_eq, not_true_eq_false, not_false_eq_true, false_implies, true_implies, implies_true, eq_self, reduceCtorEq, Nat.reduceDiv, Nat.reduceMod, Int.reduceToNat, or_true, true_or, or_false, false_or, or_self, m_it, m_if, m_c1, m_01, m_02, m_03, m_04, m_10, m_12, m_13, m_14, m_20, m_21, m_23, m_24, m_30, m_31, m_32, m_34, m_40, m_41, m_42, m_43]
      rw [o6 182 12 (fun z => absurd z (by decide)) (fun z => absurd z (by decide)), hm_w]
      refine ⟨fun hk => ?_, fun hk => ?_⟩
      · rw [jadd (x := 1100) (y := (k : Int)) (by omega) (by omega), jinc (by omega) (by omega), show (1100 + (k : Int)).toNat = 1100 + k by omega, Int.toNat_natCast]
        refine ⟨⟨by omega, by omega⟩, ⟨by omega, by omega⟩, ⟨k + 1, rfl, by omega, ht_up H6 (by decide) (ht_int H6 (by decide) _), fun o i e e2_w => ?_, fun i hi_w => ?_, fun i hi_w => ?_⟩, by show m - ((k : Int) + 1).toNat < m - ((k : Int)).toNat; omega⟩
        · rw [up_ne (fun z => by have := e2_w z.1; have := z.2; omega)]
          exact o6 o i e (fun z => by have := e2_w z; omega)
        · rw [up_ne (fun z => absurd z.1 (by decide))]
          exact n6_w i hi_w
        · by_cases e : i = k
          · rw [e, up_eq]
            exact o6 189 _ (fun z => absurd z (by decide)) (fun _ => by omega)
          · rw [up_ne (fun z => e z.2)]
            exact m6_w i (by omega)
      · obtain rfl : k = m := by omega
        refine w_lp (fun en h' => ∃ j : Nat, en = [182, (j : Int)] ∧ j ≤ 14 ∧ HT g_fk a_g3 h' ∧ (∀ o i : Nat, (o = 188 → 95 ≤ i) → (o = 189 → k ≤ i) → o ≠ 190 → h' o i = h4 o i) ∧ (∀ i, i < 95 → h' 188 i = h4 188 (95 + i)) ∧ ∀ i, i < k → h' 189 i = h4 189 (1100 + i)) (fun en _ => 14 - (en.getD 1 0).toNat) ⟨0, rfl, by omega, H6, fun o i e e2_w _ => o6 o i e e2_w, n6_w, m6_w⟩ ?_
        rintro en h7 ⟨j, rfl, j14_w, H7, o7, n7, m7_w⟩
        refine ⟨by show 14 - ((j : Int)).toNat < K; omega, ?_⟩
        simp only [wf_4, wf_40, wf_5, wf_50, wf_6, wl_1, wt_1, wu_1, wa_1, wl_4, wt_4, wu_4, wa_4, wl_5, wt_5, wu_5, wa_5, wl_6, wt_6, wu_6, wa_6, wl_9, wt_9, wu_9, wa_9, wl_10, wt_10, wu_10, wa_10, wl_11, wt_11, wu_11, wa_11, wl_13, wt_13, wu_13, wa_13, wl_14, wt_14, wu_14, wa_14, wl_15, wt_15, wu_15, wa_15, wl_16, wt_16, wu_16, wa_16, wl_17, wt_17, wu_17, wa_17, wl_20, wt_20, wu_20, wa_20, wl_21, wt_21, wu_21, wa_21, wl_22, wt_22, wu_22, wa_22, wl_23, wt_23, wu_23, wa_23, wl_24, wt_24, wu_24, wa_24, wl_26, wt_26, wu_26, wa_26, wl_27, wt_27, wu_27, wa_27, wl_28, wt_28, wu_28, wa_28, we_1, we_3, we_10, we_14, we_15, we_16, we_17, we_18, we_20, we_21, we_22, we_24, we_25, we_26, we_27, we_28, we_30, we_31, we_32, wc_20, wc_21, wc_22, wc_24, wc_25, wc_26, wc_27, wc_3, wc_4, wc_7, wc_28, wc_32, ws_1, ws_2, ws_3, ws_4, ws_9, ws_10, ws_11, ws_14, ws_15, ws_16, ws_27, ws_17, ws_20, ws_28, kc_0, kc_1, kn_1, kc_2, kn_2, kc_3, kc_4, kc_5, kc_6, kc_7, kc_8, kc_9, kc_10, kc_12, kc_13, kc_14, kc_16, kc_17, kc_18, kc_19, kc_20, kc_21, kc_22, kc_24, kc_28, kc_30, kc_32, kc_37, kc_40, kc_41, kc_42, kc_43, kc_45, kc_48, kc_56, kc_57, kc_59, kc_60, kc_61, kc_64, kc_73, kc_78, kc_91, kc_95, kc_96, kc_97, kc_98, kc_99, kc_100, kc_112, kc_122, kc_125, kc_126, kc_150, kc_162, kc_163, kc_168, kc_186, kc_190, kc_200, kc_250, kc_255, kc_355, kc_356, kc_404, kc_405, kc_429, kc_573, kc_999, kc_1000, kc_1002, kc_1100, kc_1891, kc_2200, kc_4719, kc_4869, kc_4881, kc_5148, kc_9999, kn_9999, kc_10000, kc_12345, kc_19741, kc_25433, kc_65536, kc_320403, kc_628412, kc_629093, kc_660401, kc_679843, kc_918640, kc_979410, kc_1178088, kc_6232410, kc_24644941, kc_36238189, kc_38270444, kc_392531318, kc_425693491, kc_1103515245, kc_1342154595, kc_2147483648, kc_42328242873, kc_891704255789, kc_1722105685577, kc_1858726030364, ct_0, ct_1, ct_2, ct_3, ct_4, ct_5, cf_0, cf_1, cf_2, cf_3, cf_4, cf_5, w_ty6, w_ty7, m_sv, m_z0, m_hd, m_g0, m_gs, m_s0, m_ss, m_ap, m_an, forall_const, true_and, and_true, ne_eq, not_true_eq_false, not_false_eq_true, false_implies, true_implies, implies_true, eq_self, reduceCtorEq, Nat.reduceDiv, Nat.reduceMod, Int.reduceToNat, or_true, true_or, or_false, false_or, or_self, m_it, m_if, m_c1, m_01, m_02, m_03, m_04, m_10, m_12, m_13, m_14, m_20, m_21, m_23, m_24, m_30, m_31, m_32, m_34, m_40, m_41, m_42, m_43]
        refine ⟨fun hj => ?_, fun hj => ?_⟩
        · rw [jadd (x := 14) (y := (j : Int)) (by omega) (by omega), jinc (by omega) (by omega), show (14 + (j : Int)).toNat = 14 + j by omega, Int.toNat_natCast]
          refine ⟨⟨by omega, by omega⟩, ⟨by omega, by omega⟩, ⟨j + 1, rfl, by omega, ht_upL H7 (by decide) (ht_long H7 (by decide) _), fun o i e e2_w e3_w => ?_, fun i hi_w => ?_, fun i hi_w => ?_⟩, by show 14 - ((j : Int) + 1).toNat < 14 - ((j : Int)).toNat; omega⟩
          · rw [up_ne (fun z => e3_w z.1)]
            exact o7 o i e e2_w e3_w
          · rw [up_ne (fun z => absurd z.1 (by decide))]
            exact n7 i hi_w
          · rw [up_ne (fun z => absurd z.1 (by decide))]
            exact m7_w i hi_w
        · have qn : QK (h4 188 98, h4 188 96) (r_T 0) JT h7 := new_QK p4q rfl H7 (fun i => o7 182 i (fun z => absurd z (by decide)) (fun z => absurd z (by decide)) (by decide)) n7 (fun i hi_w => o7 188 i (fun _ => hi_w) (fun z => absurd z (by decide)) (by decide)) (fun q i z1 z2 z3 z4 => o7 q i (fun z => absurd z z2) (fun z => absurd z z3) z4)
          have w6_w := r_98 p4q
          have w4_w := r_96 p4q
          have gg : GridOK (h7 188) 0 (h4 188 98) (h4 188 96) := by
            refine ⟨fun i hi_w => ?_, fun c hc_w => ?_⟩
            · rw [n7 _ (by omega), Nat.zero_add]
              exact p4d.1 i hi_w
            · rw [n7 _ (by omega), Nat.zero_add]
              exact p4d.2 c hc_w
          have ll : 0 ≤ h7 188 4 → CodeOK (h7 189) (h7 188 4).toNat := fun z => by
            have e4_w : h7 188 4 = h4 188 99 := n7 4 (by decide)
            rw [e4_w] at z ⊢
            rcases r4.2.2 with d | d | ⟨e0, l, e1_w, e2_w, e3_w, e5_w⟩
            · omega
            · exact absurd z4 d
            · refine ⟨l, fun i hi_w => ?_, ?_, by omega, e5_w⟩
              · rw [m7_w _ (by omega), show 1100 + ((h4 188 99).toNat + i) = 1100 + (h4 188 99).toNat + i by omega]
                exact e1_w i hi_w
              · rw [m7_w _ (by omega), show 1100 + ((h4 188 99).toNat + l.length) = 1100 + (h4 188 99).toNat + l.length by omega]
                exact e2_w
          obtain ⟨r, h8, y1, -, y2, y3, y4⟩ := c241 _ h7 qn gg ll
          refine ⟨r, h8, y1, 0, rfl, in_0, _, y2, ?_, ?_, ?_⟩
          · unfold DG
            rw [y3, o7 188 98 (fun _ => by decide) (fun z => absurd z (by decide)) (by decide), o7 188 96 (fun _ => by decide) (fun z => absurd z (by decide)) (by decide)]
            refine ⟨fun i hi_w => ?_, fun c hc_w => ?_⟩
            · rw [o7 188 _ (fun _ => by omega) (fun z => absurd z (by decide)) (by decide)]
              exact p4d.1 i hi_w
            · rw [o7 188 _ (fun _ => by omega) (fun z => absurd z (by decide)) (by decide)]
              exact p4d.2 c hc_w
          · rw [y4, o7 182 12 (fun z => absurd z (by decide)) (fun z => absurd z (by decide)) (by decide)]
            exact s6_w
          · rw [y4, o7 182 12 (fun z => absurd z (by decide)) (fun z => absurd z (by decide)) (by decide)]
            omega
end PARK
