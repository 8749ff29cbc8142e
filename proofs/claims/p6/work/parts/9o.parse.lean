/-! ===== the reference's parser: a meter ===== -/
section PARD
variable {P : Int × Int} {N : Nat} {g : Nat × Nat} {xs : Nat → Int} {L K n : Nat} {ck : Nat → List Nat} {cW : Nat → Nat → Int} {h h' h1 h2 : XH} {F : XP}
theorem pa_0 (a : PA N h h1) (z : h1 182 8 = 0) : h 182 8 = 0 := Decidable.byContradiction fun y => absurd z (by rw [a.2.2.2.1 y]; exact y)
theorem g_213 (c197 : G197 P N g (evF xs L ck K cW g_M n)) (c202 : G202 P N g (evF xs L ck K cW g_M n)) (c205 : G205 P N g (evF xs L ck K cW g_M n)) (c207 : G207 g (evF xs L ck K cW g_M n)) (c208 : G208 P N g (evF xs L ck K cW g_M n)) : G212 213 P N g (evF xs L ck K cW g_M (n + 1)) := fun h hp f0_w ht => by
  suffices hs : ∃ r h', evF xs L ck K cW g_M (n + 1) 213 [182] ((a_g3, g), h) = some (1, r, ((a_g3, g), h')) ∧ B212 P N h r h' by
    obtain ⟨r, h', e1_w, rfl, e2_w⟩ := hs
    exact ⟨h', e1_w, e2_w⟩
  refine tr_of gm_213 ?_
  show wS _ _ K bb_213 [182, 0, 0, 0, 0, 0] h _
  generalize evF xs L ck K cW g_M n = F at c197 c202 c205 c207 c208 ⊢
  unfold bb_213
  simp only [wf_4, wf_40, wf_5, wf_50, wf_6, wl_1, wt_1, wu_1, wa_1, wl_4, wt_4, wu_4, wa_4, wl_5, wt_5, wu_5, wa_5, wl_6, wt_6, wu_6, wa_6, wl_9, wt_9, wu_9, wa_9, wl_10, wt_10, wu_10, wa_10, wl_11, wt_11, wu_11, wa_11, wl_13, wt_13, wu_13, wa_13, wl_14, wt_14, wu_14, wa_14, wl_15, wt_15, wu_15, wa_15, wl_16, wt_16, wu_16, wa_16, wl_17, wt_17, wu_17, wa_17, wl_20, wt_20, wu_20, wa_20, wl_21, wt_21, wu_21, wa_21, wl_22, wt_22, wu_22, wa_22, wl_23, wt_23, wu_23, wa_23, wl_24, wt_24, wu_24, wa_24, wl_26, wt_26, wu_26, wa_26, wl_27, wt_27, wu_27, wa_27, wl_28, wt_28, wu_28, wa_28, we_1, we_3, we_10, we_14, we_15, we_16, we_17, we_18, we_20, we_21, we_22, we_24, we_25, we_26, we_27, we_28, we_30, we_31, we_32, wc_20, wc_21, wc_22, wc_24, wc_25, wc_26, wc_27, wc_3, wc_4, wc_7, wc_28, wc_32, ws_1, ws_2, ws_3, ws_4, ws_9, ws_10, ws_11, ws_14, ws_15, ws_16, ws_27, ws_17, ws_20, ws_28, kc_0, kc_1, kn_1, kc_2, kn_2, kc_3, kc_4, kc_5, kc_6, kc_7, kc_8, kc_9, kc_10, kc_12, kc_13, kc_14, kc_16, kc_17, kc_18, kc_19, kc_20, kc_21, kc_22, kc_24, kc_28, kc_30, kc_32, kc_37, kc_40, kc_41, kc_42, kc_43, kc_45, kc_48, kc_56, kc_57, kc_59, kc_60, kc_61, kc_64, kc_73, kc_78, kc_91, kc_95, kc_96, kc_97, kc_98, kc_99, kc_100, kc_112, kc_122, kc_125, kc_126, kc_150, kc_162, kc_163, kc_168, kc_186, kc_190, kc_200, kc_250, kc_255, kc_355, kc_356, kc_404, kc_405, kc_429, kc_573, kc_999, kc_1000, kc_1002, kc_1100, kc_1891, kc_2200, kc_4719, kc_4869, kc_4881, kc_5148, kc_9999, kn_9999, kc_10000, kc_12345, kc_19741, kc_25433, kc_65536, kc_320403, kc_628412, kc_629093, kc_660401, kc_679843, kc_918640, kc_979410, kc_1178088, kc_6232410, kc_24644941, kc_36238189, kc_38270444, kc_392531318, kc_425693491, kc_1103515245, kc_1342154595, kc_2147483648, kc_42328242873, kc_891704255789, kc_1722105685577, kc_1858726030364, ct_0, ct_1, ct_2, ct_3, ct_4, ct_5, cf_0, cf_1, cf_2, cf_3, cf_4, cf_5, w_ty6, w_ty7, m_sv, m_z0, m_hd, m_g0, m_gs, m_s0, m_ss, m_ap, m_an, forall_const, true_and, and_true, ne_eq, not_true_eq_false, not_false_eq_true, false_implies, true_implies, implies_true, eq_self, reduceCtorEq, Nat.reduceDiv, Nat.reduceMod, Int.reduceToNat, or_true, true_or, or_false, false_or, or_self, m_it, m_if, m_c1, m_01, m_02, m_03, m_04, m_10, m_12, m_13, m_14, m_20, m_21, m_23, m_24, m_30, m_31, m_32, m_34, m_40, m_41, m_42, m_43]
  obtain ⟨b0, b6⟩ := r_98 hp.1
  obtain ⟨cc0, cc4⟩ := r_96 hp.1
  obtain ⟨ss0, ss4⟩ := r_97 hp.1
  obtain ⟨h1, x1_w, p1_w, e1_w, l1⟩ := c208 h 8 (h 188 98) 6 hp f0_w ht (by decide) b0 b6 (by decide)
  obtain ⟨v, h2, x2_w, a2, iv_w, ok2, -⟩ := c202 h1 13 4 p1_w (by decide) (by decide) (by decide)
  have p2_w := p1_w.pa a2
  obtain ⟨h3, x3, a3, -⟩ := c197 h2 2 p2_w (by decide) (by decide)
  have p3_w := p2_w.pa a3
  have n3_w : PF N (fun _ => False) h h3 := e1_w.tr (a2.pf.tr a3.pf)
  have g3_w : ∀ i, h3 188 i = h 188 i := fun i => pf_g n3_w (fun z => z)
  obtain ⟨w, h4, x4_w, a4, iw, ok4, -⟩ := c205 h3 14 (h 188 96) p3_w (by decide) cc0 (by omega)
  have p4_w := p3_w.pa a4
  obtain ⟨h5, x5_w, a5, -⟩ := c197 h4 7 p4_w (by decide) (by decide)
  have p5_w := p4_w.pa a5
  have n5_w : PF N (fun _ => False) h h5 := n3_w.tr (a4.pf.tr a5.pf)
  have g5_w : ∀ i, h5 188 i = h 188 i := fun i => pf_g n5_w (fun z => z)
  obtain ⟨u, h6, x6, a6, iu, ok6, -⟩ := c205 h5 18 (h 188 97) p5_w (by decide) ss0 (by omega)
  have p6_w := p5_w.pa a6
  have n6_w : PF N (fun _ => False) h h6 := n5_w.tr a6.pf
  have g6 : ∀ i, h6 188 i = h 188 i := fun i => pf_g n6_w (fun z => z)
  have m6_w : PF N NL h h6 := pf_nl n6_w (fun z => z)
  have y0 : F 207 [182, 3] ((a_g3, g), h) = some (1, [h 188 98], ((a_g3, g), h)) := c207 h 3 (by decide) (by decide)
  have y3 : F 207 [182, 1] ((a_g3, g), h3) = some (1, [h 188 96], ((a_g3, g), h3)) := by
    rw [← g3_w]
    exact c207 h3 1 (by decide) (by decide)
  have y5 : F 207 [182, 2] ((a_g3, g), h5) = some (1, [h 188 97], ((a_g3, g), h5)) := by
    rw [← g5_w]
    exact c207 h5 2 (by decide) (by decide)
  refine ⟨_, h, y0, [], h1, x1_w, [v], h2, x2_w, [], h3, x3, _, h3, y3, [w], h4, x4_w, [], h5, x5_w, _, h5, y5, [u], h6, x6, fun z6 => ?_, fun z6 => ⟨rfl, p6_w, m6_w⟩⟩
  have z5 := pa_0 a6 z6
  have z4 := pa_0 a5 z5
  have z3 := pa_0 a4 z4
  have z2 := pa_0 a3 z3
  have z1 := pa_0 a2 z2
  have l6 := l1 z1
  obtain ⟨v0_w, v1_w, -⟩ := ok2 z2
  obtain ⟨w0_w, w1_w, -⟩ := ok4 z4
  obtain ⟨u0, u1, -⟩ := ok6 z6
  obtain ⟨m, hm_w⟩ : ∃ m : Nat, h 188 98 = (m : Int) := ⟨(h 188 98).toNat, by omega⟩
  have hm6 : m < 6 := by omega
  have ft := fit_m m hm6
  have j1 : j_iop 0 168 (j_iop 2 3 (h 188 98)) = 168 + 3 * (m : Int) := by
    rw [hm_w, jmul (x := 3) (y := (m : Int)) (by omega) (by omega), jadd (by omega) (by omega)]
  have j2_w : j_iop 0 (168 + 3 * (m : Int)) 1 = 169 + 3 * (m : Int) := by
    rw [jadd (by omega) (by omega)]
    omega
  have j3_w : j_iop 0 (168 + 3 * (m : Int)) 2 = 170 + 3 * (m : Int) := by
    rw [jadd (by omega) (by omega)]
    omega
  have jh : j_hd [h 188 98] = h 188 98 := rfl
  simp only [jh, j1, j2_w, j3_w]
  have k1_w : (168 + 3 * (m : Int)).toNat = 168 + 3 * m := by omega
  have k2 : (169 + 3 * (m : Int)).toNat = 169 + 3 * m := by omega
  have k3 : (170 + 3 * (m : Int)).toNat = 170 + 3 * m := by omega
  refine ⟨⟨by omega, by omega⟩, ⟨by omega, by omega⟩, ⟨by omega, by omega⟩, ⟨by decide, by decide⟩, ?_⟩
  rw [k1_w, k2, k3]
  have e98_w : h6 188 98 = (m : Int) := by rw [g6, hm_w]
  obtain ⟨q1_w, s1_w⟩ := gw_PK p6_w (i := 168 + 3 * m) (u := 3) (v := v) (by omega) (by omega) (by decide) v0_w (by omega) ft (by omega) (by omega) (by omega) (by omega) (fun k _ => by omega) (fun k hk => by rw [g6] at hk; omega)
  have e98' : j_up h6 188 (168 + 3 * m) v 188 98 = (m : Int) := by
    rw [up_ne (fun z => by have := z.2; omega), e98_w]
  have e96' : j_up h6 188 (168 + 3 * m) v 188 96 = h 188 96 := by
    rw [up_ne (fun z => by have := z.2; omega), g6]
  obtain ⟨q2_w, s2_w⟩ := gw_PK q1_w (i := 169 + 3 * m) (u := 3) (v := w) (by omega) (by omega) (by decide) w0_w (by omega) ft (by omega) (by omega) (by omega) (by omega) (fun k hk => by rw [e98'] at hk; omega) (fun k hk => by rw [e96'] at hk; omega)
  have e98'' : j_up (j_up h6 188 (168 + 3 * m) v) 188 (169 + 3 * m) w 188 98 = (m : Int) := by
    rw [up_ne (fun z => by have := z.2; omega), e98']
  have e96'' : j_up (j_up h6 188 (168 + 3 * m) v) 188 (169 + 3 * m) w 188 96 = h 188 96 := by
    rw [up_ne (fun z => by have := z.2; omega), e96']
  have cw : j_up (j_up h6 188 (168 + 3 * m) v) 188 (169 + 3 * m) w 188 (169 + 3 * m) = w := up_eq
  rw [show j_hd [u] = u from rfl, show j_hd [w] = w from rfl, show j_hd [v] = v from rfl]
  generalize j_up (j_up h6 188 (168 + 3 * m) v) 188 (169 + 3 * m) w = h7 at q2_w s2_w e98'' e96'' cw ⊢
  obtain ⟨q3_w, s3_w⟩ := gw_PK q2_w (i := 170 + 3 * m) (u := 3) (v := u) (by omega) (by omega) (by decide) u0 (by omega) ft (by omega) (by omega) (by omega) (by omega) (fun k hk => by omega) (fun k hk => by rw [e96''] at hk; omega)
  have f98 : j_up h7 188 (170 + 3 * m) u 188 98 = (m : Int) := by
    rw [up_ne (fun z => by have := z.2; omega), e98'']
  have f96 : j_up h7 188 (170 + 3 * m) u 188 96 = h 188 96 := by
    rw [up_ne (fun z => by have := z.2; omega), e96'']
  have fw : j_up h7 188 (170 + 3 * m) u 188 (169 + 3 * m) = w := by
    rw [up_ne (fun z => by have := z.2; omega), cw]
  rw [f98, jadd (x := (m : Int)) (y := 1) (by omega) (by omega)]
  generalize j_up h7 188 (170 + 3 * m) u = h8 at q3_w s3_w f98 f96 fw ⊢
  obtain ⟨q4_w, s4_w⟩ := gw_QK q3_w (i := 98) (lo_w := 98) (hi_w := 99) (u := 6) (v := (m : Int) + 1) (by decide) (by decide) (by decide) (by omega) (by omega) (by decide +kernel) (by decide) (by decide)
  refine ⟨rfl, ⟨q4_w, s4_w.pt q3_w.2.1, ?_⟩, m6_w.tr (s1_w.tr (s2_w.tr (s3_w.tr s4_w)))⟩
  have d := q3_w.2.2
  have d98_w : j_up h8 188 98 ((m : Int) + 1) 188 98 = (m : Int) + 1 := up_eq
  have d96_w : j_up h8 188 98 ((m : Int) + 1) 188 96 = h8 188 96 := up_ne (fun z => absurd z.2 (by decide))
  unfold DG
  rw [d98_w, d96_w]
  refine ⟨fun i hi_w => ?_, fun c hc_w => ?_⟩
  · rw [up_ne (fun z => by have := z.2; omega)]
    by_cases e : i = m
    · subst e
      rw [show 95 + (74 + 3 * i) = 169 + 3 * i by omega, fw, f96]
      omega
    · exact d.1 i (by rw [f98]; omega)
  · rw [up_ne (fun z => by have := z.2; omega)]
    exact d.2 c hc_w
end PARD
