/-! ===== the reference's parser: an empty_w draft ===== -/
def G199 (P : Int × Int) (g : Nat × Nat) (F : XP) : Prop := ∀ (h : XH), QK P (r_T 0) (RJ P) h → ∃ h', F 199 [182, 95] ((a_g3, g), h) = some (1, [], ((a_g3, g), h')) ∧ QK P (r_T 0) (RJ P) h' ∧ (∀ o k : Nat, (o = 188 → k < 95) → h' o k = h o k) ∧ (∀ k : Nat, 95 ≤ k → k < 190 → k ≠ 99 → h' 188 k = 0) ∧ h' 188 99 = -1
section PARF
variable {P : Int × Int} {N : Nat} {g : Nat × Nat} {xs : Nat → Int} {L K n : Nat} {ck : Nat → List Nat} {cW : Nat → Nat → Int} {h h' h1 h2 : XH} {F : XP}
def B199 (P : Int × Int) (h : XH) (r : List Int) (h' : XH) : Prop := r = [] ∧ QK P (r_T 0) (RJ P) h' ∧ (∀ o k : Nat, (o = 188 → k < 95) → h' o k = h o k) ∧ (∀ k : Nat, 95 ≤ k → k < 190 → k ≠ 99 → h' 188 k = 0) ∧ h' 188 99 = -1
theorem g_199 (hK_w : 4294967300 ≤ K) : G199 P g (evF xs L ck K cW g_M (n + 1)) := fun h hQ => by
  suffices hs : ∃ r h', evF xs L ck K cW g_M (n + 1) 199 [182, 95] ((a_g3, g), h) = some (1, r, ((a_g3, g), h')) ∧ B199 P h r h' by
    obtain ⟨r, h', e1_w, rfl, e2_w⟩ := hs
    exact ⟨h', e1_w, e2_w⟩
  refine tr_of gm_199 ?_
  show wS _ _ K bb_199 [182, 95, 0] h _
  generalize evF xs L ck K cW g_M n = F
  unfold bb_199
  simp only [wf_4, wf_40, wf_5, wf_50, wf_6, wl_1, wt_1, wu_1, wa_1, wl_4, wt_4, wu_4, wa_4, wl_5, wt_5, wu_5, wa_5, wl_6, wt_6, wu_6, wa_6, wl_9, wt_9, wu_9, wa_9, wl_10, wt_10, wu_10, wa_10, wl_11, wt_11, wu_11, wa_11, wl_13, wt_13, wu_13, wa_13, wl_14, wt_14, wu_14, wa_14, wl_15, wt_15, wu_15, wa_15, wl_16, wt_16, wu_16, wa_16, wl_17, wt_17, wu_17, wa_17, wl_20, wt_20, wu_20, wa_20, wl_21, wt_21, wu_21, wa_21, wl_22, wt_22, wu_22, wa_22, wl_23, wt_23, wu_23, wa_23, wl_24, wt_24, wu_24, wa_24, wl_26, wt_26, wu_26, wa_26, wl_27, wt_27, wu_27, wa_27, wl_28, wt_28, wu_28, wa_28, we_1, we_3, we_10, we_14, we_15, we_16, we_17, we_18, we_20, we_21, we_22, we_24, we_25, we_26, we_27, we_28, we_30, we_31, we_32, wc_20, wc_21, wc_22, wc_24, wc_25, wc_26, wc_27, wc_3, wc_4, wc_7, wc_28, wc_32, ws_1, ws_2, ws_3, ws_4, ws_9, ws_10, ws_11, ws_14, ws_15, ws_16, ws_27, ws_17, ws_20, ws_28, kc_0, kc_1, kn_1, kc_2, kn_2, kc_3, kc_4, kc_5, kc_6, kc_7, kc_8, kc_9, kc_10, kc_12, kc_13, kc_14, kc_16, kc_17, kc_18, kc_19, kc_20, kc_21, kc_22, kc_24, kc_28, kc_30, kc_32, kc_37, kc_40, kc_41, kc_42, kc_43, kc_45, kc_48, kc_56, kc_57, kc_59, kc_60, kc_61, kc_64, kc_73, kc_78, kc_91, kc_95, kc_96, kc_97, kc_98, kc_99, kc_100, kc_112, kc_122, kc_125, kc_126, kc_150, kc_162, kc_163, kc_168, kc_186, kc_190, kc_200, kc_250, kc_255, kc_355, kc_356, kc_404, kc_405, kc_429, kc_573, kc_999, kc_1000, kc_1002, kc_1100, kc_1891, kc_2200, kc_4719, kc_4869, kc_4881, kc_5148, kc_9999, kn_9999, kc_10000, kc_12345, kc_19741, kc_25433, kc_65536, kc_320403, kc_628412, kc_629093, kc_660401, kc_679843, kc_918640, kc_979410, kc_1178088, kc_6232410, kc_24644941, kc_36238189, kc_38270444, kc_392531318, kc_425693491, kc_1103515245, kc_1342154595, kc_2147483648, kc_42328242873, kc_891704255789, kc_1722105685577, kc_1858726030364, ct_0, ct_1, ct_2, ct_3, ct_4, ct_5, cf_0, cf_1, cf_2, cf_3, cf_4, cf_5, w_ty6, w_ty7, m_sv, m_z0, m_hd, m_g0, m_gs, m_s0, m_ss, m_ap, m_an, forall_const, true_and, and_true, ne_eq, not_true_eq_false, not_false_eq_true, false_implies, true_implies, implies_true, eq_self, reduceCtorEq, Nat.reduceDiv, Nat.reduceMod, Int.reduceToNat, or_true, true_or, or_false, false_or, or_self, m_it, m_if, m_c1, m_01, m_02, m_03, m_04, m_10, m_12, m_13, m_14, m_20, m_21, m_23, m_24, m_30, m_31, m_32, m_34, m_40, m_41, m_42, m_43]
  refine w_lp (fun en h' => ∃ k : Nat, en = [182, 95, (k : Int)] ∧ k ≤ 95 ∧ QK P (r_T 0) (RJ P) h' ∧ (∀ o k : Nat, (o = 188 → k < 95) → h' o k = h o k) ∧ ∀ i : Nat, 95 ≤ i → i < 95 + k → h' 188 i = 0) (fun en _ => 95 - (en.getD 2 0).toNat) ⟨0, rfl, by omega, hQ, fun _ _ _ => rfl, fun i i0 i1_w => by omega⟩ ?_
  rintro en h1 ⟨k, rfl, k0_w, q1_w, f1_w, z1⟩
  refine ⟨?_, ?_⟩
  · show 95 - ((k : Int)).toNat < K
    omega
  simp only [wf_4, wf_40, wf_5, wf_50, wf_6, wl_1, wt_1, wu_1, wa_1, wl_4, wt_4, wu_4, wa_4, wl_5, wt_5, wu_5, wa_5, wl_6, wt_6, wu_6, wa_6, wl_9, wt_9, wu_9, wa_9, wl_10, wt_10, wu_10, wa_10, wl_11, wt_11, wu_11, wa_11, wl_13, wt_13, wu_13, wa_13, wl_14, wt_14, wu_14, wa_14, wl_15, wt_15, wu_15, wa_15, wl_16, wt_16, wu_16, wa_16, wl_17, wt_17, wu_17, wa_17, wl_20, wt_20, wu_20, wa_20, wl_21, wt_21, wu_21, wa_21, wl_22, wt_22, wu_22, wa_22, wl_23, wt_23, wu_23, wa_23, wl_24, wt_24, wu_24, wa_24, wl_26, wt_26, wu_26, wa_26, wl_27, wt_27, wu_27, wa_27, wl_28, wt_28, wu_28, wa_28, we_1, we_3, we_10, we_14, we_15, we_16, we_17, we_18, we_20, we_21, we_22, we_24, we_25, we_26, we_27, we_28, we_30, we_31, we_32, wc_20, wc_21, wc_22, wc_24, wc_25, wc_26, wc_27, wc_3, wc_4, wc_7, wc_28, wc_32, ws_1, ws_2, ws_3, ws_4, ws_9, ws_10, ws_11, ws_14, ws_15, ws_16, ws_27, ws_17, ws_20, ws_28, kc_0, kc_1, kn_1, kc_2, kn_2, kc_3, kc_4, kc_5, kc_6, kc_7, kc_8, kc_9, kc_10, kc_12, kc_13, kc_14, kc_16, kc_17, kc_18, kc_19, kc_20, kc_21, kc_22, kc_24, kc_28, kc_30, kc_32, kc_37, kc_40, kc_41, kc_42, kc_43, kc_45, kc_48, kc_56, kc_57, kc_59, kc_60, kc_61, kc_64, kc_73, kc_78, kc_91, kc_95, kc_96, kc_97, kc_98, kc_99, kc_100, kc_112, kc_122, kc_125, kc_126, kc_150, kc_162, kc_163, kc_168, kc_186, kc_190, kc_200, kc_250, kc_255, kc_355, kc_356, kc_404, kc_405, kc_429, kc_573, kc_999, kc_1000, kc_1002, kc_1100, kc_1891, kc_2200, kc_4719, kc_4869, kc_4881, kc_5148, kc_9999, kn_9999, kc_10000, kc_12345, kc_19741, kc_25433, kc_65536, kc_320403, kc_628412, kc_629093, kc_660401, kc_679843, kc_918640, kc_979410, kc_1178088, kc_6232410, kc_24644941, kc_36238189, kc_38270444, kc_392531318, kc_425693491, kc_1103515245, kc_1342154595, kc_2147483648, kc_42328242873, kc_891704255789, kc_1722105685577, kc_1858726030364, ct_0, ct_1, ct_2, ct_3, ct_4, ct_5, cf_0, cf_1, cf_2, cf_3, cf_4, cf_5, w_ty6, w_ty7, m_sv, m_z0, m_hd, m_g0, m_gs, m_s0, m_ss, m_ap, m_an, forall_const, true_and, and_true, ne_eq, not_true_eq_false, not_false_eq_true, false_implies, true_implies, implies_true, eq_self, reduceCtorEq, Nat.reduceDiv, Nat.reduceMod, Int.reduceToNat, or_true, true_or, or_false, false_or, or_self, m_it, m_if, m_c1, m_01, m_02, m_03, m_04, m_10, m_12, m_13, m_14, m_20, m_21, m_23, m_24, m_30, m_31, m_32, m_34, m_40, m_41, m_42, m_43]
  refine ⟨fun hk => ?_, fun hk => ?_⟩
  · rw [jadd (x := 95) (y := (k : Int)) (by omega) (by omega), jinc (by omega) (by omega), show (95 + (k : Int)).toNat = 95 + k by omega]
    refine ⟨⟨by omega, by omega⟩, ⟨k + 1, rfl, by omega, dw_QK q1_w (ht_up q1_w.1 (by decide) in_0) (Or.inl ⟨rfl, by omega⟩) (g_fit_ok (lo_w := 95) (hi_w := 190) (t := (1, 0, 0)) (by decide +kernel) (by omega) (by omega) ⟨by decide, by decide, in_0⟩), fun o i e => ?_, fun i i0 i1_w => ?_⟩, ?_⟩
    · rw [up_ne (fun z => by have := e z.1; have := z.2; omega)]
      exact f1_w o i e
    · by_cases e : i = 95 + k
      · rw [e, up_eq]
      · rw [up_ne (fun z => e z.2)]
        exact z1 i i0 (by omega)
    · show 95 - ((k : Int) + 1).toNat < 95 - ((k : Int)).toNat
      omega
  · rw [jadd (x := 95) (y := 4) (by omega) (by omega), show ((95 : Int) + 4).toNat = 99 from rfl]
    have hin : InI (-1) := ⟨by decide, by decide⟩
    refine ⟨⟨by decide, by decide⟩, rfl, dw_QK q1_w (ht_up q1_w.1 (by decide) hin) (Or.inl ⟨rfl, by decide⟩) (g_fit_ok (lo_w := 99) (hi_w := 100) (t := (1, -1, -1)) (by decide +kernel) (by decide) (by decide) ⟨by decide, by decide, hin⟩), fun o i e => ?_, fun i i0 i1_w i2_w => ?_, up_eq⟩
    · rw [up_ne (fun z => by have := e z.1; have := z.2; omega)]
      exact f1_w o i e
    · rw [up_ne (fun z => i2_w z.2)]
      exact z1 i i0 (by omega)
end PARF
