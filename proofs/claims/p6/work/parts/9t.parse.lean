/-! ===== the reference_w: begins ===== -/
def JT : XH → Prop := fun _ => True
theorem jt_js : JS (r_T 0) JT := fun _ _ _ _ => trivial
section PARI
variable {P : Int × Int} {N : Nat} {g : Nat × Nat} {xs : Nat → Int} {L K n : Nat} {ck : Nat → List Nat} {cW : Nat → Nat → Int} {h h' h1 h2 : XH} {F : XP}
theorem s_228 : ∀ h : XH, evF xs L ck K cW g_M (n + 1) 228 [182] ((a_g3, g), h) = some (1, [h 188 3], ((a_g3, g), h)) := fun h => by
  suffices hs : ∃ r h', evF xs L ck K cW g_M (n + 1) 228 [182] ((a_g3, g), h) = some (1, r, ((a_g3, g), h')) ∧ r = [h 188 3] ∧ h' = h by
    obtain ⟨r, h', e1_w, rfl, rfl⟩ := hs
    exact e1_w
  refine tr_of gm_228 (B := fun r h' => r = [h 188 3] ∧ h' = h) ?_
  show wS _ _ K bb_228 [182] h _
  generalize evF xs L ck K cW g_M n = F
  unfold bb_228
  simp only [wf_4, wf_40, wf_5, wf_50, wf_6, wl_1, wt_1, wu_1, wa_1, wl_4, wt_4, wu_4, wa_4, wl_5, wt_5, wu_5, wa_5, wl_6, wt_6, wu_6, wa_6, wl_9, wt_9, wu_9, wa_9, wl_10, wt_10, wu_10, wa_10, wl_11, wt_11, wu_11, wa_11, wl_13, wt_13, wu_13, wa_13, wl_14, wt_14, wu_14, wa_14, wl_15, wt_15, wu_15, wa_15, wl_16, wt_16, wu_16, wa_16, wl_17, wt_17, wu_17, wa_17, wl_20, wt_20, wu_20, wa_20, wl_21, wt_21, wu_21, wa_21, wl_22, wt_22, wu_22, wa_22, wl_23, wt_23, wu_23, wa_23, wl_24, wt_24, wu_24, wa_24, wl_26, wt_26, wu_26, wa_26, wl_27, wt_27, wu_27, wa_27, wl_28, wt_28, wu_28, wa_28, we_1, we_3, we_10, we_14, we_15, we_16, we_17, we_18, we_20, we_21, we_22, we_24, we_25, we_26, we_27, we_28, we_30, we_31, we_32, wc_20, wc_21, wc_22, wc_24, wc_25, wc_26, wc_27, wc_3, wc_4, wc_7, wc_28, wc_32, ws_1, ws_2, ws_3, ws_4, ws_9, ws_10, ws_11, ws_14, ws_15, ws_16, ws_27, ws_17, ws_20, ws_28, kc_0, kc_1, kn_1, kc_2, kn_2, kc_3, kc_4, kc_5, kc_6, kc_7, kc_8, kc_9, kc_10, kc_12, kc_13, kc_14, kc_16, kc_17, kc_18, kc_19, kc_20, kc_21, kc_22, kc_24, kc_28, kc_30, kc_32, kc_37, kc_40, kc_41, kc_42, kc_43, kc_45, kc_48, kc_56, kc_57, kc_59, kc_60, kc_61, kc_64, kc_73, kc_78, kc_91, kc_95, kc_96, kc_97, kc_98, kc_99, kc_100, kc_112, kc_122, kc_125, kc_126, kc_150, kc_162, kc_163, kc_168, kc_186, kc_190, kc_200, kc_250, kc_255, kc_355, kc_356, kc_404, kc_405, kc_429, kc_573, kc_999, kc_1000, kc_1002, kc_1100, kc_1891, kc_2200, kc_4719, kc_4869, kc_4881, kc_5148, kc_9999, kn_9999, kc_10000, kc_12345, kc_19741, kc_25433, kc_65536, kc_320403, kc_628412, kc_629093, kc_660401, kc_679843, kc_918640, kc_979410, kc_1178088, kc_6232410, kc_24644941, kc_36238189, kc_38270444, kc_392531318, kc_425693491, kc_1103515245, kc_1342154595, kc_2147483648, kc_42328242873, kc_891704255789, kc_1722105685577, kc_1858726030364, ct_0, ct_1, ct_2, ct_3, ct_4, ct_5, cf_0, cf_1, cf_2, cf_3, cf_4, cf_5, w_ty6, w_ty7, m_sv, m_z0, m_hd, m_g0, m_gs, m_s0, m_ss, m_ap, m_an, forall_const, true_and, and_true, ne_eq, not_true_eq_false, not_false_eq_true, false_implies, true_implies, implies_true, eq_self, reduceCtorEq, Nat.reduceDiv, Nat.reduceMod, Int.reduceToNat, or_true, true_or, or_false, false_or, or_self, m_it, m_if, m_c1, m_01, m_02, m_03, m_04, m_10, m_12, m_13, m_14, m_20, m_21, m_23, m_24, m_30, m_31, m_32, m_34, m_40, m_41, m_42, m_43]
  exact ⟨by decide, by decide⟩
theorem t_225 : TotR P (r_T 0) JT g (evF xs L ck K cW g_M (n + 1)) 225 := fun av h hQ hv => by
  obtain ⟨x, rfl, hx⟩ : ∃ x, av = [x] ∧ IV P (4, 182, 182) x := by
    match av, hv with
    | [x], hv => exact ⟨x, rfl, hv.1⟩
  obtain rfl : x = 182 := hx
  have s := q_slots hQ
  exact ⟨_, h, s_225 h, hQ, fun _ _ _ => rfl, ⟨⟨s.1, s.2, by omega, by omega⟩, trivial⟩, fun _ => hv⟩
theorem t_228 : TotR P (r_T 0) JT g (evF xs L ck K cW g_M (n + 1)) 228 := fun av h hQ hv => by
  obtain ⟨x, rfl, hx⟩ : ∃ x, av = [x] ∧ IV P (4, 182, 182) x := by
    match av, hv with
    | [x], hv => exact ⟨x, rfl, hv.1⟩
  obtain rfl : x = 182 := hx
  have s := q_nM hQ
  exact ⟨_, h, s_228 h, hQ, fun _ _ _ => rfl, ⟨⟨s.1, by omega, by omega⟩, trivial⟩, fun _ => hv⟩
theorem aw_QK (hQ : QK P (r_T 0) JT h) {q i : Nat} {v : Int} (hH : HT g_fk a_g3 (j_up h q i v)) (hq : q ≠ 182) (hb_w : (r_A q).2.1 = 0) (hv : ∀ r ∈ (r_A q).2.2, r.1 ≤ i → i < r.2.1 → IV P r.2.2 v) : QK P (r_T 0) JT (j_up h q i v) := by
  refine ⟨hH, fun k => ?_, fun q' hq' => ?_, trivial⟩
  · rw [up_ne (fun z => hq z.1.symm)]
    exact hQ.2.1 k
  · by_cases e : q' = q
    · subst e
      intro r hr a b k1_w k2 k3
      have eb : (qA (r_T 0) q').2.1 = 0 := hb_w
      have old_w := hQ.2.2.1 q' hq' r hr a b k1_w k2 k3
      rw [eb, Nat.zero_mul, Nat.zero_add] at old_w ⊢
      by_cases e2_w : a = i
      · subst e2_w
        rw [up_eq]
        exact hv r hr k1_w k2
      · rw [up_ne (fun z => e2_w z.2)]
        exact old_w
    · have e2_w : j_up h q i v q' = h q' := funext fun i => up_ne (fun z => e z.1)
      rw [e2_w]
      exact hQ.2.2.1 q' hq'
def B241 (P : Int × Int) (h : XH) (r : List Int) (h' : XH) : Prop := r = [] ∧ QK P (r_T 0) (RJ P) h' ∧ h' 188 = h 188 ∧ h' 182 12 = h 182 12
theorem t_241 (hK_w : 4294967300 ≤ K) (hQ : QK P (r_T 0) JT h) (hG : GridOK (h 188) 0 P.1 P.2) (hL : 0 ≤ h 188 4 → CodeOK (h 189) (h 188 4).toNat) : ∃ r h', evF xs L ck K cW g_M (n + 3) 241 [182] ((a_g3, g), h) = some (1, r, ((a_g3, g), h')) ∧ B241 P h r h' := by
  have c240 : TotR P (r_T 0) JT g (evF xs L ck K cW g_M (n + 1 + 1)) 240 := t_240 (n := n + 1) jt_js hK_w t_228 t_225
  obtain ⟨h2, x2_w, q2_w, k2⟩ := use0 c240 rp_240 rr_240 hQ (av := [182, 0]) ⟨rfl, ⟨in_0, 0, by decide, by decide, by decide⟩, trivial⟩
  have fr := (fr_all (n + 2) 240 [182, 0] (a_g3, g) h 1 [] (a_g3, g) h2 (by decide +kernel) rfl (Or.inr rfl) x2_w).2
  have e12_w : h2 182 12 = h 182 12 := fr 182 12 (fun _ => by decide +kernel) (by decide +kernel)
  have e188 : h2 188 = h 188 := funext fun i => k2 188 i rfl
  have e189 : h2 189 = h 189 := funext fun i => k2 189 i rfl
  refine tr_of (n := n + 2) gm_241 ?_
  show wS _ _ K bb_241 [182] h _
  generalize evF xs L ck K cW g_M (n + 2) = F at x2_w ⊢
  unfold bb_241
  simp only [wf_4, wf_40, wf_5, wf_50, wf_6, wl_1, wt_1, wu_1, wa_1, wl_4, wt_4, wu_4, wa_4, wl_5, wt_5, wu_5, wa_5, wl_6, wt_6, wu_6, wa_6, wl_9, wt_9, wu_9, wa_9, wl_10, wt_10, wu_10, wa_10, wl_11, wt_11, wu_11, wa_11, wl_13, wt_13, wu_13, wa_13, wl_14, wt_14, wu_14, wa_14, wl_15, wt_15, wu_15, wa_15, wl_16, wt_16, wu_16, wa_16, wl_17, wt_17, wu_17, wa_17, wl_20, wt_20, wu_20, wa_20, wl_21, wt_21, wu_21, wa_21, wl_22, wt_22, wu_22, wa_22, wl_23, wt_23, wu_23, wa_23, wl_24, wt_24, wu_24, wa_24, wl_26, wt_26, wu_26, wa_26, wl_27, wt_27, wu_27, wa_27, wl_28, wt_28, wu_28, wa_28, we_1, we_3, we_10, we_14, we_15, we_16, we_17, we_18, we_20, we_21, we_22, we_24, we_25, we_26, we_27, we_28, we_30, we_31, we_32, wc_20, wc_21, wc_22, wc_24, wc_25, wc_26, wc_27, wc_3, wc_4, wc_7, wc_28, wc_32, ws_1, ws_2, ws_3, ws_4, ws_9, ws_10, ws_11, ws_14, ws_15, ws_16, ws_27, ws_17, ws_20, ws_28, kc_0, kc_1, kn_1, kc_2, kn_2, kc_3, kc_4, kc_5, kc_6, kc_7, kc_8, kc_9, kc_10, kc_12, kc_13, kc_14, kc_16, kc_17, kc_18, kc_19, kc_20, kc_21, kc_22, kc_24, kc_28, kc_30, kc_32, kc_37, kc_40, kc_41, kc_42, kc_43, kc_45, kc_48, kc_56, kc_57, kc_59, kc_60, kc_61, kc_64, kc_73, kc_78, kc_91, kc_95, kc_96, kc_97, kc_98, kc_99, kc_100, kc_112, kc_122, kc_125, kc_126, kc_150, kc_162, kc_163, kc_168, kc_186, kc_190, kc_200, kc_250, kc_255, kc_355, kc_356, kc_404, kc_405, kc_429, kc_573, kc_999, kc_1000, kc_1002, kc_1100, kc_1891, kc_2200, kc_4719, kc_4869, kc_4881, kc_5148, kc_9999, kn_9999, kc_10000, kc_12345, kc_19741, kc_25433, kc_65536, kc_320403, kc_628412, kc_629093, kc_660401, kc_679843, kc_918640, kc_979410, kc_1178088, kc_6232410, kc_24644941, kc_36238189, kc_38270444, kc_392531318, kc_425693491, kc_1103515245, kc_1342154595, kc_2147483648, kc_42328242873, kc_891704255789, kc_1722105685577, kc_1858726030364, ct_0, ct_1, ct_2, ct_3, ct_4, ct_5, cf_0, cf_1, cf_2, cf_3, cf_4, cf_5, w_ty6, w_ty7, m_sv, m_z0, m_hd, m_g0, m_gs, m_s0, m_ss, m_ap, m_an, forall_const, true_and, and_true, ne_eq, not_true_eq_false, not_false_eq_true, false_implies, true_implies, implies_true, eq_self, reduceCtorEq, Nat.reduceDiv, Nat.reduceMod, Int.reduceToNat, or_true, true_or, or_false, false_or, or_self, m_it, m_if, m_c1, m_01, m_02, m_03, m_04, m_10, m_12, m_13, m_14, m_20, m_21, m_23, m_24, m_30, m_31, m_32, m_34, m_40, m_41, m_42, m_43]
  refine ⟨[], h2, x2_w, ⟨by decide, by decide⟩, ⟨by decide, by decide⟩, ⟨by decide, by decide⟩, ⟨by decide, by decide⟩, ?_⟩
  have w9 : w_ty 9 0 = 0 := by decide +kernel
  rw [w9]
  have q3_w : QK P (r_T 0) JT (j_up h2 194 404 0) := (st_QK (j := 0) (i := 404) (v := 0) q2_w jt_js (by decide) (by decide) (st_fit_ok (lo_w := 404) (hi_w := 405) (t := (1, 0, 0)) (by decide +kernel) (by decide) (by decide) ⟨by decide, by decide, in_0⟩) in_0).1
  have q4_w := aw_QK q3_w (q := 191) (i := 0) (v := 0) (ht_up q3_w.1 (by decide) in_0) (by decide) rfl (fun r hr a1_w a2 => IV.sub (List.all_eq_true.mp (show (r_A 191).2.2.all (fun r => i_sub (1, 0, 0) r.2.2) = true by decide +kernel) r hr) ⟨by decide, by decide, in_0⟩)
  have q5_w := (fd_QK q4_w jt_js (k := 18) (v := 0) (Or.inl rfl) ⟨by decide, by decide, in_0⟩).1
  have q6_w := (fd_QK q5_w jt_js (k := 19) (v := 0) (Or.inl rfl) (IV.top in_0)).1
  have in0L : InL 0 := ⟨by decide, by decide⟩
  have f195 : (r_A 195).2.2.all (fun r => i_sub (1, 0, 0) r.2.2) = true := by decide +kernel
  have q7_w := aw_QK q6_w (q := 195) (i := 0) (v := 0) (q6_w.1.up (fun _ => in_0) (fun _ => in0L) (fun _ => Or.inl rfl)) (by decide) rfl (fun r hr _ _ => IV.sub (List.all_eq_true.mp f195 r hr) ⟨by decide, by decide, in_0⟩)
  have q8_w := aw_QK q7_w (q := 195) (i := 1) (v := 0) (q7_w.1.up (fun _ => in_0) (fun _ => in0L) (fun _ => Or.inl rfl)) (by decide) rfl (fun r hr _ _ => IV.sub (List.all_eq_true.mp f195 r hr) ⟨by decide, by decide, in_0⟩)
  have o : ∀ q i : Nat, q ≠ 194 → q ≠ 191 → q ≠ 195 → (q = 182 → i ≠ 18 ∧ i ≠ 19) → j_up (j_up (j_up (j_up (j_up (j_up h2 194 404 0) 191 0 0) 182 18 0) 182 19 0) 195 0 0) 195 1 0 q i = h2 q i := fun q i z1 z2 z3 z4 => by
    rw [up_ne (fun z => z3 z.1), up_ne (fun z => z3 z.1), up_ne (fun z => (z4 z.1).2 z.2), up_ne (fun z => (z4 z.1).1 z.2), up_ne (fun z => z2 z.1), up_ne (fun z => z1 z.1)]
  have o188 : j_up (j_up (j_up (j_up (j_up (j_up h2 194 404 0) 191 0 0) 182 18 0) 182 19 0) 195 0 0) 195 1 0 188 = h 188 := funext fun i => (o 188 i (by decide) (by decide) (by decide) (fun z => absurd z (by decide))).trans (congrFun e188 i)
  have o189 : j_up (j_up (j_up (j_up (j_up (j_up h2 194 404 0) 191 0 0) 182 18 0) 182 19 0) 195 0 0) 195 1 0 189 = h 189 := funext fun i => (o 189 i (by decide) (by decide) (by decide) (fun z => absurd z (by decide))).trans (congrFun e189 i)
  have o191 : j_up (j_up (j_up (j_up (j_up (j_up h2 194 404 0) 191 0 0) 182 18 0) 182 19 0) 195 0 0) 195 1 0 191 0 = 0 := by
    rw [up_ne (fun z => absurd z.1 (by decide)), up_ne (fun z => absurd z.1 (by decide)), up_ne (fun z => absurd z.1 (by decide)), up_ne (fun z => absurd z.1 (by decide)), up_eq]
  refine ⟨rfl, ⟨q8_w.1, q8_w.2.1, q8_w.2.2.1, ?_, ?_, fun i hi_w => ?_⟩, o188, (o 182 12 (by decide) (by decide) (by decide) (fun _ => by decide)).trans e12_w⟩
  · rw [o188]
    exact hG
  · rw [o188, o189]
    exact hL
  · rw [o191] at hi_w
    omega
end PARI
