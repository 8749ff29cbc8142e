/-! ===== the reference's parser: an E ===== -/
def GE (f b : Nat) (d : Int) (P : Int × Int) (N : Nat) (g : Nat × Nat) (F : XP) : Prop := ∀ (h : XH), PK P N h → h 182 12 ≤ h 182 7 → ∃ h', F f [182, d] ((a_g3, g), h) = some (1, [], ((a_g3, g), h')) ∧ QK P (r_T 0) (RJ P) h' ∧ PX N h h' ∧ EX b h h'
section PAR6
variable {P : Int × Int} {N : Nat} {g : Nat × Nat} {xs : Nat → Int} {L K n : Nat} {ck : Nat → List Nat} {cW : Nat → Nat → Int} {h h1 h2 : XH} {F : XP}
theorem ex_atp {b : Nat} (a : EX b (atp h) h2) : EX b h h2 := fun h0 => by
  have e : atp h 182 12 = h 182 12 := up_ne (fun z => absurd z.2 (by decide))
  have k := a h0
  rw [e] at k
  exact k
theorem EX.mono {b c : Nat} (a : EX b h h2) (hb_w : b ≤ c) : EX c h h2 := fun h0 => by
  obtain ⟨l, s1_w, s2_w, s3_w⟩ := a h0
  exact ⟨l, s1_w, s2_w, fun t ht => s3_w t (by omega)⟩
theorem stepE (hp : PK P N h1) (hc_w : h1 182 12 ≤ h1 182 7) (ht : h1 184 (h1 182 7).toNat ≠ 0) (p2_w : PX N (atp h1) h2) (q : QK P (r_T 0) (RJ P) h2) {x : Int} (hx : InI x) : QK P (r_T 0) (RJ P) (emt h2 x) ∧ PX N h1 (emt h2 x) ∧ h1 182 7 < emt h2 x 182 7 := by
  have pn := PA.next hp ht
  have pxa := PA.px hp pn
  obtain ⟨_, ⟨t1_w, t2_w, t3_w, t4_w, t5_w, t6, t7, t8⟩, _⟩ := hp
  have e12_w : atp h1 182 12 = h1 182 12 := up_ne (fun z => absurd z.2 (by decide))
  have e7_w : atp h1 182 7 = h1 182 7 + 1 := up_eq
  have e8 : atp h1 182 8 = h1 182 8 := atp_8
  obtain ⟨a1_w, a2, a3, a4, a5, a6, a7, a8⟩ := p2_w
  rw [e12_w] at a7 a8
  rw [e7_w] at a5 a8
  rw [e8] at a4
  refine ⟨emt_QK q hx ⟨by omega, by omega⟩, ⟨fun o k k1_w k2 => ?_, ?_, ?_, fun z => ?_, ?_, ?_, ?_, ?_⟩, ?_⟩
  · rw [emt_ob (fun z => (k1_w z).2.2) (fun z => by have := k2 z; omega), a1_w o k k1_w (fun z => by rw [e12_w]; exact k2 z)]
    exact up_ne (fun z => (k1_w z.1).1 z.2)
  · rw [emt_8]
    exact a2
  · rw [emt_8]
    exact a3
  · rw [emt_8]
    exact a4 z
  · rw [emt_7]
    omega
  · rw [emt_7]
    exact a6
  · rw [emt_12]
    omega
  · rw [emt_12, emt_7]
    omega
  · rw [emt_7]
    omega
/-- a sign, what stands behind_w it, and the code of both_w -/
theorem binE {f b b2 : Nat} {d : Int} (c216 : G216 P N g F) (ce : GE f b2 d P N g F) (hp : PK P N h) (hc_w : h 182 12 ≤ h 182 7) (q1_w : QK P (r_T 0) (RJ P) h1) (px1 : PX N h h1) (e1_w : EX b h h1) (ht : h1 184 (h1 182 7).toNat ≠ 0) (hb_w : b2 + 1 ≤ b) : ∃ h2, F f [182, d] ((a_g3, g), atp h1) = some (1, [], ((a_g3, g), h2)) ∧ ∀ x : Int, 4 ≤ x → x ≤ 10 → F 216 [182, x, 0] ((a_g3, g), h2) = some (1, [], ((a_g3, g), emt h2 x)) ∧ QK P (r_T 0) (RJ P) (emt h2 x) ∧ PX N h (emt h2 x) ∧ EX b h (emt h2 x) ∧ h1 182 7 < emt h2 x 182 7 := by
  have hp1 := px_e hp px1 q1_w hc_w
  have c0 : 0 ≤ h 182 12 := hp.2.1.2.2.2.2.2.1
  have b7 := px1.2.2.2.2.2.2.1
  have b8 := px1.2.2.2.2.2.2.2
  have hc1 : h1 182 12 ≤ h1 182 7 := by omega
  have pn := PA.next hp1 ht
  have e12_w : atp h1 182 12 = h1 182 12 := up_ne (fun z => absurd z.2 (by decide))
  have e7_w : atp h1 182 7 = h1 182 7 + 1 := up_eq
  obtain ⟨h2, f1_w, q2_w, p2_w, x2_w⟩ := ce (atp h1) (hp1.pa pn) (by rw [e12_w, e7_w]; omega)
  have pxa := (PA.px hp1 pn).tr p2_w (by omega)
  have d7_w := p2_w.2.2.2.2.2.2.1
  have d8_w := p2_w.2.2.2.2.2.2.2
  have d6_w := p2_w.2.2.2.2.2.1
  have n1_w := hp.2.1.2.2.2.1
  rw [e12_w] at d7_w d8_w
  rw [e7_w] at d8_w
  refine ⟨h2, f1_w, fun x x0_w x1_w => ?_⟩
  obtain ⟨s1_w, s2_w, s3_w⟩ := stepE hp1 hc1 ht p2_w q2_w (x := x) ⟨by omega, by omega⟩
  have k := c216 h2 x 0 (by omega) (by omega) (by omega) (by omega) (by decide) (by decide)
  rw [Int.mul_zero, Int.add_zero] at k
  exact ⟨k, s1_w, px1.tr s2_w c0, EX.join (h3 := emt h2 x) c0 e1_w (ex_atp x2_w) pxa (fun z => by rw [pxa.2.2.2.1 z]; exact z) b7 rfl ⟨by omega, by omega, by omega, by omega, by omega⟩ (by omega) hb_w (by omega), s3_w⟩
theorem g_220 {b : Nat} {a : Int} (hK_w : 1001 ≤ K) (c195 : G195 P N g (evF xs L ck K cW g_M n)) (c216 : G216 P N g (evF xs L ck K cW g_M n)) (ce : GE 221 b a P N g (evF xs L ck K cW g_M n)) : GE 220 (b + 1) a P N g (evF xs L ck K cW g_M (n + 1)) := fun h hp hc_w => by
  suffices hs : ∃ r h', evF xs L ck K cW g_M (n + 1) 220 [182, a] ((a_g3, g), h) = some (1, r, ((a_g3, g), h')) ∧ r = [] ∧ QK P (r_T 0) (RJ P) h' ∧ PX N h h' ∧ EX (b + 1) h h' by
    obtain ⟨r, h', e1_w, rfl, e2_w⟩ := hs
    exact ⟨h', e1_w, e2_w⟩
  refine tr_of gm_220 (B := fun r h' => r = [] ∧ QK P (r_T 0) (RJ P) h' ∧ PX N h h' ∧ EX (b + 1) h h') ?_
  show wS _ _ K bb_220 [182, a] h _
  generalize evF xs L ck K cW g_M n = F at c195 c216 ce ⊢
  unfold bb_220
  simp only [wf_4, wf_40, wf_5, wf_50, wf_6, wl_1, wt_1, wu_1, wa_1, wl_4, wt_4, wu_4, wa_4, wl_5, wt_5, wu_5, wa_5, wl_6, wt_6, wu_6, wa_6, wl_9, wt_9, wu_9, wa_9, wl_10, wt_10, wu_10, wa_10, wl_11, wt_11, wu_11, wa_11, wl_13, wt_13, wu_13, wa_13, wl_14, wt_14, wu_14, wa_14, wl_15, wt_15, wu_15, wa_15, wl_16, wt_16, wu_16, wa_16, wl_17, wt_17, wu_17, wa_17, wl_20, wt_20, wu_20, wa_20, wl_21, wt_21, wu_21, wa_21, wl_22, wt_22, wu_22, wa_22, wl_23, wt_23, wu_23, wa_23, wl_24, wt_24, wu_24, wa_24, wl_26, wt_26, wu_26, wa_26, wl_27, wt_27, wu_27, wa_27, wl_28, wt_28, wu_28, wa_28, we_1, we_3, we_10, we_14, we_15, we_16, we_17, we_18, we_20, we_21, we_22, we_24, we_25, we_26, we_27, we_28, we_30, we_31, we_32, wc_20, wc_21, wc_22, wc_24, wc_25, wc_26, wc_27, wc_3, wc_4, wc_7, wc_28, wc_32, ws_1, ws_2, ws_3, ws_4, ws_9, ws_10, ws_11, ws_14, ws_15, ws_16, ws_27, ws_17, ws_20, ws_28, kc_0, kc_1, kn_1, kc_2, kn_2, kc_3, kc_4, kc_5, kc_6, kc_7, kc_8, kc_9, kc_10, kc_12, kc_13, kc_14, kc_16, kc_17, kc_18, kc_19, kc_20, kc_21, kc_22, kc_24, kc_28, kc_30, kc_32, kc_37, kc_40, kc_41, kc_42, kc_43, kc_45, kc_48, kc_56, kc_57, kc_59, kc_60, kc_61, kc_64, kc_73, kc_78, kc_91, kc_95, kc_96, kc_97, kc_98, kc_99, kc_100, kc_112, kc_122, kc_125, kc_126, kc_150, kc_162, kc_163, kc_168, kc_186, kc_190, kc_200, kc_250, kc_255, kc_355, kc_356, kc_404, kc_405, kc_429, kc_573, kc_999, kc_1000, kc_1002, kc_1100, kc_1891, kc_2200, kc_4719, kc_4869, kc_4881, kc_5148, kc_9999, kn_9999, kc_10000, kc_12345, kc_19741, kc_25433, kc_65536, kc_320403, kc_628412, kc_629093, kc_660401, kc_679843, kc_918640, kc_979410, kc_1178088, kc_6232410, kc_24644941, kc_36238189, kc_38270444, kc_392531318, kc_425693491, kc_1103515245, kc_1342154595, kc_2147483648, kc_42328242873, kc_891704255789, kc_1722105685577, kc_1858726030364, ct_0, ct_1, ct_2, ct_3, ct_4, ct_5, cf_0, cf_1, cf_2, cf_3, cf_4, cf_5, w_ty6, w_ty7, m_sv, m_z0, m_hd, m_g0, m_gs, m_s0, m_ss, m_ap, m_an, forall_const, true_and, and_true, ne_eq, not_true_eq_false, not_false_eq_true, false_implies, true_implies, implies_true, eq_self, reduceCtorEq, Nat.reduceDiv, Nat.reduceMod, Int.reduceToNat, or_true, true_or, or_false, false_or, or_self, m_it, m_if, m_c1, m_01, m_02, m_03, m_04, m_10, m_12, m_13, m_14, m_20, m_21, m_23, m_24, m_30, m_31, m_32, m_34, m_40, m_41, m_42, m_43]
  obtain ⟨h1, f1_w, q1_w, p1_w, x1_w⟩ := ce h hp hc_w
  refine ⟨[], h1, f1_w, ?_⟩
  refine w_lp (fun en h' => en = [182, a] ∧ QK P (r_T 0) (RJ P) h' ∧ PX N h h' ∧ EX (b + 1) h h') (fun _ h' => ((N : Int) - h' 182 7).toNat) ⟨rfl, q1_w, p1_w, x1_w.mono (by omega)⟩ ?_
  rintro en h2 ⟨rfl, q2_w, p2_w, x2_w⟩
  have n1_w := hp.2.1.2.2.2.1
  have n2_w := hp.2.1.2.1
  have n3_w := p2_w.2.2.2.2.1
  refine ⟨?_, ?_⟩
  · show ((N : Int) - h2 182 7).toNat < K
    omega
  simp only [wf_4, wf_40, wf_5, wf_50, wf_6, wl_1, wt_1, wu_1, wa_1, wl_4, wt_4, wu_4, wa_4, wl_5, wt_5, wu_5, wa_5, wl_6, wt_6, wu_6, wa_6, wl_9, wt_9, wu_9, wa_9, wl_10, wt_10, wu_10, wa_10, wl_11, wt_11, wu_11, wa_11, wl_13, wt_13, wu_13, wa_13, wl_14, wt_14, wu_14, wa_14, wl_15, wt_15, wu_15, wa_15, wl_16, wt_16, wu_16, wa_16, wl_17, wt_17, wu_17, wa_17, wl_20, wt_20, wu_20, wa_20, wl_21, wt_21, wu_21, wa_21, wl_22, wt_22, wu_22, wa_22, wl_23, wt_23, wu_23, wa_23, wl_24, wt_24, wu_24, wa_24, wl_26, wt_26, wu_26, wa_26, wl_27, wt_27, wu_27, wa_27, wl_28, wt_28, wu_28, wa_28, we_1, we_3, we_10, we_14, we_15, we_16, we_17, we_18, we_20, we_21, we_22, we_24, we_25, we_26, we_27, we_28, we_30, we_31, we_32, wc_20, wc_21, wc_22, wc_24, wc_25, wc_26, wc_27, wc_3, wc_4, wc_7, wc_28, wc_32, ws_1, ws_2, ws_3, ws_4, ws_9, ws_10, ws_11, ws_14, ws_15, ws_16, ws_27, ws_17, ws_20, ws_28, kc_0, kc_1, kn_1, kc_2, kn_2, kc_3, kc_4, kc_5, kc_6, kc_7, kc_8, kc_9, kc_10, kc_12, kc_13, kc_14, kc_16, kc_17, kc_18, kc_19, kc_20, kc_21, kc_22, kc_24, kc_28, kc_30, kc_32, kc_37, kc_40, kc_41, kc_42, kc_43, kc_45, kc_48, kc_56, kc_57, kc_59, kc_60, kc_61, kc_64, kc_73, kc_78, kc_91, kc_95, kc_96, kc_97, kc_98, kc_99, kc_100, kc_112, kc_122, kc_125, kc_126, kc_150, kc_162, kc_163, kc_168, kc_186, kc_190, kc_200, kc_250, kc_255, kc_355, kc_356, kc_404, kc_405, kc_429, kc_573, kc_999, kc_1000, kc_1002, kc_1100, kc_1891, kc_2200, kc_4719, kc_4869, kc_4881, kc_5148, kc_9999, kn_9999, kc_10000, kc_12345, kc_19741, kc_25433, kc_65536, kc_320403, kc_628412, kc_629093, kc_660401, kc_679843, kc_918640, kc_979410, kc_1178088, kc_6232410, kc_24644941, kc_36238189, kc_38270444, kc_392531318, kc_425693491, kc_1103515245, kc_1342154595, kc_2147483648, kc_42328242873, kc_891704255789, kc_1722105685577, kc_1858726030364, ct_0, ct_1, ct_2, ct_3, ct_4, ct_5, cf_0, cf_1, cf_2, cf_3, cf_4, cf_5, w_ty6, w_ty7, m_sv, m_z0, m_hd, m_g0, m_gs, m_s0, m_ss, m_ap, m_an, forall_const, true_and, and_true, ne_eq, not_true_eq_false, not_false_eq_true, false_implies, true_implies, implies_true, eq_self, reduceCtorEq, Nat.reduceDiv, Nat.reduceMod, Int.reduceToNat, or_true, true_or, or_false, false_or, or_self, m_it, m_if, m_c1, m_01, m_02, m_03, m_04, m_10, m_12, m_13, m_14, m_20, m_21, m_23, m_24, m_30, m_31, m_32, m_34, m_40, m_41, m_42, m_43]
  have hp2 := px_e hp p2_w q2_w hc_w
  obtain ⟨v, h3, d1_w, d2_w, d3_w, d4_w⟩ := c195 h2 42 hp2 ⟨by decide, by decide⟩
  refine ⟨[v], h3, d1_w, fun k => ?_, fun k => ?_⟩
  · obtain ⟨t, rfl⟩ := d3_w k
    obtain ⟨h4, z1, z2⟩ := binE c216 ce hp hc_w q2_w p2_w x2_w (by rw [t.2.1]; decide) (Nat.le_refl _)
    obtain ⟨y1, y2, y3, y4, y5⟩ := z2 6 (by decide) (by decide)
    have y6 := y3.2.2.2.2.2.1
    exact ⟨[], h4, z1, [], _, y1, ⟨y2, y3, y4⟩, by omega⟩
  · obtain ⟨t, rfl⟩ := d4_w k
    exact ⟨q2_w, p2_w, x2_w⟩
theorem g_219 {b : Nat} {a : Int} (hK_w : 1001 ≤ K) (c192 : G192 P N g (evF xs L ck K cW g_M n)) (c216 : G216 P N g (evF xs L ck K cW g_M n)) (ce : GE 220 b a P N g (evF xs L ck K cW g_M n)) : GE 219 (b + 1) a P N g (evF xs L ck K cW g_M (n + 1)) := fun h hp hc_w => by
  suffices hs : ∃ r h', evF xs L ck K cW g_M (n + 1) 219 [182, a] ((a_g3, g), h) = some (1, r, ((a_g3, g), h')) ∧ r = [] ∧ QK P (r_T 0) (RJ P) h' ∧ PX N h h' ∧ EX (b + 1) h h' by
    obtain ⟨r, h', e1_w, rfl, e2_w⟩ := hs
    exact ⟨h', e1_w, e2_w⟩
  refine tr_of gm_219 (B := fun r h' => r = [] ∧ QK P (r_T 0) (RJ P) h' ∧ PX N h h' ∧ EX (b + 1) h h') ?_
  show wS _ _ K bb_219 [182, a, 0] h _
  generalize evF xs L ck K cW g_M n = F at c192 c216 ce ⊢
  unfold bb_219
  simp only [wf_4, wf_40, wf_5, wf_50, wf_6, wl_1, wt_1, wu_1, wa_1, wl_4, wt_4, wu_4, wa_4, wl_5, wt_5, wu_5, wa_5, wl_6, wt_6, wu_6, wa_6, wl_9, wt_9, wu_9, wa_9, wl_10, wt_10, wu_10, wa_10, wl_11, wt_11, wu_11, wa_11, wl_13, wt_13, wu_13, wa_13, wl_14, wt_14, wu_14, wa_14, wl_15, wt_15, wu_15, wa_15, wl_16, wt_16, wu_16, wa_16, wl_17, wt_17, wu_17, wa_17, wl_20, wt_20, wu_20, wa_20, wl_21, wt_21, wu_21, wa_21, wl_22, wt_22, wu_22, wa_22, wl_23, wt_23, wu_23, wa_23, wl_24, wt_24, wu_24, wa_24, wl_26, wt_26, wu_26, wa_26, wl_27, wt_27, wu_27, wa_27, wl_28, wt_28, wu_28, wa_28, we_1, we_3, we_10, we_14, we_15, we_16, we_17, we_18, we_20, we_21, we_22, we_24, we_25, we_26, we_27, we_28, we_30, we_31, we_32, wc_20, wc_21, wc_22, wc_24, wc_25, wc_26, wc_27, wc_3, wc_4, wc_7, wc_28, wc_32, ws_1, ws_2, ws_3, ws_4, ws_9, ws_10, ws_11, ws_14, ws_15, ws_16, ws_27, ws_17, ws_20, ws_28, kc_0, kc_1, kn_1, kc_2, kn_2, kc_3, kc_4, kc_5, kc_6, kc_7, kc_8, kc_9, kc_10, kc_12, kc_13, kc_14, kc_16, kc_17, kc_18, kc_19, kc_20, kc_21, kc_22, kc_24, kc_28, kc_30, kc_32, kc_37, kc_40, kc_41, kc_42, kc_43, kc_45, kc_48, kc_56, kc_57, kc_59, kc_60, kc_61, kc_64, kc_73, kc_78, kc_91, kc_95, kc_96, kc_97, kc_98, kc_99, kc_100, kc_112, kc_122, kc_125, kc_126, kc_150, kc_162, kc_163, kc_168, kc_186, kc_190, kc_200, kc_250, kc_255, kc_355, kc_356, kc_404, kc_405, kc_429, kc_573, kc_999, kc_1000, kc_1002, kc_1100, kc_1891, kc_2200, kc_4719, kc_4869, kc_4881, kc_5148, kc_9999, kn_9999, kc_10000, kc_12345, kc_19741, kc_25433, kc_65536, kc_320403, kc_628412, kc_629093, kc_660401, kc_679843, kc_918640, kc_979410, kc_1178088, kc_6232410, kc_24644941, kc_36238189, kc_38270444, kc_392531318, kc_425693491, kc_1103515245, kc_1342154595, kc_2147483648, kc_42328242873, kc_891704255789, kc_1722105685577, kc_1858726030364, ct_0, ct_1, ct_2, ct_3, ct_4, ct_5, cf_0, cf_1, cf_2, cf_3, cf_4, cf_5, w_ty6, w_ty7, m_sv, m_z0, m_hd, m_g0, m_gs, m_s0, m_ss, m_ap, m_an, forall_const, true_and, and_true, ne_eq, not_true_eq_false, not_false_eq_true, false_implies, true_implies, implies_true, eq_self, reduceCtorEq, Nat.reduceDiv, Nat.reduceMod, Int.reduceToNat, or_true, true_or, or_false, false_or, or_self, m_it, m_if, m_c1, m_01, m_02, m_03, m_04, m_10, m_12, m_13, m_14, m_20, m_21, m_23, m_24, m_30, m_31, m_32, m_34, m_40, m_41, m_42, m_43]
  obtain ⟨h1, f1_w, q1_w, p1_w, x1_w⟩ := ce h hp hc_w
  refine ⟨[], h1, f1_w, ?_⟩
  refine w_lp (fun en h' => (∃ v : Int, en = [182, a, v]) ∧ QK P (r_T 0) (RJ P) h' ∧ PX N h h' ∧ EX (b + 1) h h') (fun _ h' => ((N : Int) - h' 182 7).toNat) ⟨⟨0, rfl⟩, q1_w, p1_w, x1_w.mono (by omega)⟩ ?_
  rintro en h2 ⟨⟨v0_w, rfl⟩, q2_w, p2_w, x2_w⟩
  have n1_w := hp.2.1.2.2.2.1
  have n2_w := hp.2.1.2.1
  have n3_w := p2_w.2.2.2.2.1
  refine ⟨?_, ?_⟩
  · show ((N : Int) - h2 182 7).toNat < K
    omega
  simp only [wf_4, wf_40, wf_5, wf_50, wf_6, wl_1, wt_1, wu_1, wa_1, wl_4, wt_4, wu_4, wa_4, wl_5, wt_5, wu_5, wa_5, wl_6, wt_6, wu_6, wa_6, wl_9, wt_9, wu_9, wa_9, wl_10, wt_10, wu_10, wa_10, wl_11, wt_11, wu_11, wa_11, wl_13, wt_13, wu_13, wa_13, wl_14, wt_14, wu_14, wa_14, wl_15, wt_15, wu_15, wa_15, wl_16, wt_16, wu_16, wa_16, wl_17, wt_17, wu_17, wa_17, wl_20, wt_20, wu_20, wa_20, wl_21, wt_21, wu_21, wa_21, wl_22, wt_22, wu_22, wa_22, wl_23, wt_23, wu_23, wa_23, wl_24, wt_24, wu_24, wa_24, wl_26, wt_26, wu_26, wa_26, wl_27, wt_27, wu_27, wa_27, wl_28, wt_28, wu_28, wa_28, we_1, we_3, we_10, we_14, we_15, we_16, we_17, we_18, we_20, we_21, we_22, we_24, we_25, we_26, we_27, we_28, we_30, we_31, we_32, wc_20, wc_21, wc_22, wc_24, wc_25, wc_26, wc_27, wc_3, wc_4, wc_7, wc_28, wc_32, ws_1, ws_2, ws_3, ws_4, ws_9, ws_10, ws_11, ws_14, ws_15, ws_16, ws_27, ws_17, ws_20, ws_28, kc_0, kc_1, kn_1, kc_2, kn_2, kc_3, kc_4, kc_5, kc_6, kc_7, kc_8, kc_9, kc_10, kc_12, kc_13, kc_14, kc_16, kc_17, kc_18, kc_19, kc_20, kc_21, kc_22, kc_24, kc_28, kc_30, kc_32, kc_37, kc_40, kc_41, kc_42, kc_43, kc_45, kc_48, kc_56, kc_57, kc_59, kc_60, kc_61, kc_64, kc_73, kc_78, kc_91, kc_95, kc_96, kc_97, kc_98, kc_99, kc_100, kc_112, kc_122, kc_125, kc_126, kc_150, kc_162, kc_163, kc_168, kc_186, kc_190, kc_200, kc_250, kc_255, kc_355, kc_356, kc_404, kc_405, kc_429, kc_573, kc_999, kc_1000, kc_1002, kc_1100, kc_1891, kc_2200, kc_4719, kc_4869, kc_4881, kc_5148, kc_9999, kn_9999, kc_10000, kc_12345, kc_19741, kc_25433, kc_65536, kc_320403, kc_628412, kc_629093, kc_660401, kc_679843, kc_918640, kc_979410, kc_1178088, kc_6232410, kc_24644941, kc_36238189, kc_38270444, kc_392531318, kc_425693491, kc_1103515245, kc_1342154595, kc_2147483648, kc_42328242873, kc_891704255789, kc_1722105685577, kc_1858726030364, ct_0, ct_1, ct_2, ct_3, ct_4, ct_5, cf_0, cf_1, cf_2, cf_3, cf_4, cf_5, w_ty6, w_ty7, m_sv, m_z0, m_hd, m_g0, m_gs, m_s0, m_ss, m_ap, m_an, forall_const, true_and, and_true, ne_eq, not_true_eq_false, not_false_eq_true, false_implies, true_implies, implies_true, eq_self, reduceCtorEq, Nat.reduceDiv, Nat.reduceMod, Int.reduceToNat, or_true, true_or, or_false, false_or, or_self, m_it, m_if, m_c1, m_01, m_02, m_03, m_04, m_10, m_12, m_13, m_14, m_20, m_21, m_23, m_24, m_30, m_31, m_32, m_34, m_40, m_41, m_42, m_43]
  have hp2 := px_e hp p2_w q2_w hc_w
  obtain ⟨v, d1_w, d2_w, d3_w⟩ := c192 h2 43 hp2 ⟨by decide, by decide⟩
  obtain ⟨w, k1_w, k2, k3⟩ := c192 h2 45 hp2 ⟨by decide, by decide⟩
  have fin_w : (∃ c, tkS h2 c) → ∃ r h3, F 220 [182, a] ((a_g3, g), j_up h2 182 7 (j_iop 0 (h2 182 7) 1)) = some (1, r, (a_g3, g), h3) ∧ (¬j_hd [v] = 0 → ∃ r h5, F 216 [182, 4, 0] ((a_g3, g), h3) = some (1, r, (a_g3, g), h5) ∧ ((∃ w, [182, a, j_hd [v]] = [182, a, w]) ∧ QK P (r_T 0) (RJ P) h5 ∧ PX N h h5 ∧ EX (b + 1) h h5) ∧ ((N : Int) - h5 182 7).toNat < ((N : Int) - h2 182 7).toNat) ∧ (j_hd [v] = 0 → ∃ r h5, F 216 [182, 5, 0] ((a_g3, g), h3) = some (1, r, (a_g3, g), h5) ∧ ((∃ w, [182, a, j_hd [v]] = [182, a, w]) ∧ QK P (r_T 0) (RJ P) h5 ∧ PX N h h5 ∧ EX (b + 1) h h5) ∧ ((N : Int) - h5 182 7).toNat < ((N : Int) - h2 182 7).toNat) := by
    rintro ⟨c, t⟩
    rw [jat hp2]
    obtain ⟨h4, z1, z2⟩ := binE c216 ce hp hc_w q2_w p2_w x2_w (by rw [t.2.1]; decide) (Nat.le_refl _)
    obtain ⟨y1, y2, y3, y4, y5⟩ := z2 4 (by decide) (by decide)
    obtain ⟨w1_w, w2_w, w3_w, w4_w, w5⟩ := z2 5 (by decide) (by decide)
    have y6 := y3.2.2.2.2.2.1
    have w6_w := w3_w.2.2.2.2.2.1
    exact ⟨[], h4, z1, fun _ => ⟨[], _, y1, ⟨⟨_, rfl⟩, y2, y3, y4⟩, by omega⟩, fun _ => ⟨[], _, w1_w, ⟨⟨_, rfl⟩, w2_w, w3_w, w4_w⟩, by omega⟩⟩
  exact ⟨[v], h2, d1_w, fun k => ⟨[v], h2, d1_w, fin_w ⟨43, d3_w.mp k⟩⟩, fun k => ⟨[w], h2, k1_w, fun k2 => ⟨[v], h2, d1_w, fin_w ⟨45, k3.mp k2⟩⟩, fun _ => ⟨q2_w, p2_w, x2_w⟩⟩⟩
theorem g_217 {b : Nat} {a : Int} (hK_w : 1001 ≤ K) (c193 : G193 P N g (evF xs L ck K cW g_M n)) (c216 : G216 P N g (evF xs L ck K cW g_M n)) (ce : GE 218 b a P N g (evF xs L ck K cW g_M n)) : GE 217 (b + 1) a P N g (evF xs L ck K cW g_M (n + 1)) := fun h hp hc_w => by
  suffices hs : ∃ r h', evF xs L ck K cW g_M (n + 1) 217 [182, a] ((a_g3, g), h) = some (1, r, ((a_g3, g), h')) ∧ r = [] ∧ QK P (r_T 0) (RJ P) h' ∧ PX N h h' ∧ EX (b + 1) h h' by
    obtain ⟨r, h', e1_w, rfl, e2_w⟩ := hs
    exact ⟨h', e1_w, e2_w⟩
  refine tr_of gm_217 (B := fun r h' => r = [] ∧ QK P (r_T 0) (RJ P) h' ∧ PX N h h' ∧ EX (b + 1) h h') ?_
  show wS _ _ K bb_217 [182, a, 0] h _
  generalize evF xs L ck K cW g_M n = F at c193 c216 ce ⊢
  unfold bb_217
  simp only [wf_4, wf_40, wf_5, wf_50, wf_6, wl_1, wt_1, wu_1, wa_1, wl_4, wt_4, wu_4, wa_4, wl_5, wt_5, wu_5, wa_5, wl_6, wt_6, wu_6, wa_6, wl_9, wt_9, wu_9, wa_9, wl_10, wt_10, wu_10, wa_10, wl_11, wt_11, wu_11, wa_11, wl_13, wt_13, wu_13, wa_13, wl_14, wt_14, wu_14, wa_14, wl_15, wt_15, wu_15, wa_15, wl_16, wt_16, wu_16, wa_16, wl_17, wt_17, wu_17, wa_17, wl_20, wt_20, wu_20, wa_20, wl_21, wt_21, wu_21, wa_21, wl_22, wt_22, wu_22, wa_22, wl_23, wt_23, wu_23, wa_23, wl_24, wt_24, wu_24, wa_24, wl_26, wt_26, wu_26, wa_26, wl_27, wt_27, wu_27, wa_27, wl_28, wt_28, wu_28, wa_28, we_1, we_3, we_10, we_14, we_15, we_16, we_17, we_18, we_20, we_21, we_22, we_24, we_25, we_26, we_27, we_28, we_30, we_31, we_32, wc_20, wc_21, wc_22, wc_24, wc_25, wc_26, wc_27, wc_3, wc_4, wc_7, wc_28, wc_32, ws_1, ws_2, ws_3, ws_4, ws_9, ws_10, ws_11, ws_14, ws_15, ws_16, ws_27, ws_17, ws_20, ws_28, kc_0, kc_1, kn_1, kc_2, kn_2, kc_3, kc_4, kc_5, kc_6, kc_7, kc_8, kc_9, kc_10, kc_12, kc_13, kc_14, kc_16, kc_17, kc_18, kc_19, kc_20, kc_21, kc_22, kc_24, kc_28, kc_30, kc_32, kc_37, kc_40, kc_41, kc_42, kc_43, kc_45, kc_48, kc_56, kc_57, kc_59, kc_60, kc_61, kc_64, kc_73, kc_78, kc_91, kc_95, kc_96, kc_97, kc_98, kc_99, kc_100, kc_112, kc_122, kc_125, kc_126, kc_150, kc_162, kc_163, kc_168, kc_186, kc_190, kc_200, kc_250, kc_255, kc_355, kc_356, kc_404, kc_405, kc_429, kc_573, kc_999, kc_1000, kc_1002, kc_1100, kc_1891, kc_2200, kc_4719, kc_4869, kc_4881, kc_5148, kc_9999, kn_9999, kc_10000, kc_12345, kc_19741, kc_25433, kc_65536, kc_320403, kc_628412, kc_629093, kc_660401, kc_679843, kc_918640, kc_979410, kc_1178088, kc_6232410, kc_24644941, kc_36238189, kc_38270444, kc_392531318, kc_425693491, kc_1103515245, kc_1342154595, kc_2147483648, kc_42328242873, kc_891704255789, kc_1722105685577, kc_1858726030364, ct_0, ct_1, ct_2, ct_3, ct_4, ct_5, cf_0, cf_1, cf_2, cf_3, cf_4, cf_5, w_ty6, w_ty7, m_sv, m_z0, m_hd, m_g0, m_gs, m_s0, m_ss, m_ap, m_an, forall_const, true_and, and_true, ne_eq, not_true_eq_false, not_false_eq_true, false_implies, true_implies, implies_true, eq_self, reduceCtorEq, Nat.reduceDiv, Nat.reduceMod, Int.reduceToNat, or_true, true_or, or_false, false_or, or_self, m_it, m_if, m_c1, m_01, m_02, m_03, m_04, m_10, m_12, m_13, m_14, m_20, m_21, m_23, m_24, m_30, m_31, m_32, m_34, m_40, m_41, m_42, m_43]
  obtain ⟨h1, f1_w, q1_w, p1_w, x1_w⟩ := ce h hp hc_w
  refine ⟨[], h1, f1_w, ?_⟩
  refine w_lp (fun en h' => (∃ v : Int, en = [182, a, v]) ∧ QK P (r_T 0) (RJ P) h' ∧ PX N h h' ∧ EX (b + 1) h h') (fun _ h' => ((N : Int) - h' 182 7).toNat) ⟨⟨0, rfl⟩, q1_w, p1_w, x1_w.mono (by omega)⟩ ?_
  rintro en h2 ⟨⟨v0_w, rfl⟩, q2_w, p2_w, x2_w⟩
  have n1_w := hp.2.1.2.2.2.1
  have n2_w := hp.2.1.2.1
  have n3_w := p2_w.2.2.2.2.1
  refine ⟨?_, ?_⟩
  · show ((N : Int) - h2 182 7).toNat < K
    omega
  simp only [wf_4, wf_40, wf_5, wf_50, wf_6, wl_1, wt_1, wu_1, wa_1, wl_4, wt_4, wu_4, wa_4, wl_5, wt_5, wu_5, wa_5, wl_6, wt_6, wu_6, wa_6, wl_9, wt_9, wu_9, wa_9, wl_10, wt_10, wu_10, wa_10, wl_11, wt_11, wu_11, wa_11, wl_13, wt_13, wu_13, wa_13, wl_14, wt_14, wu_14, wa_14, wl_15, wt_15, wu_15, wa_15, wl_16, wt_16, wu_16, wa_16, wl_17, wt_17, wu_17, wa_17, wl_20, wt_20, wu_20, wa_20, wl_21, wt_21, wu_21, wa_21, wl_22, wt_22, wu_22, wa_22, wl_23, wt_23, wu_23, wa_23, wl_24, wt_24, wu_24, wa_24, wl_26, wt_26, wu_26, wa_26, wl_27, wt_27, wu_27, wa_27, wl_28, wt_28, wu_28, wa_28, we_1, we_3, we_10, we_14, we_15, we_16, we_17, we_18, we_20, we_21, we_22, we_24, we_25, we_26, we_27, we_28, we_30, we_31, we_32, wc_20, wc_21, wc_22, wc_24, wc_25, wc_26, wc_27, wc_3, wc_4, wc_7, wc_28, wc_32, ws_1, ws_2, ws_3, ws_4, ws_9, ws_10, ws_11, ws_14, ws_15, ws_16, ws_27, ws_17, ws_20, ws_28, kc_0, kc_1, kn_1, kc_2, kn_2, kc_3, kc_4, kc_5, kc_6, kc_7, kc_8, kc_9, kc_10, kc_12, kc_13, kc_14, kc_16, kc_17, kc_18, kc_19, kc_20, kc_21, kc_22, kc_24, kc_28, kc_30, kc_32, kc_37, kc_40, kc_41, kc_42, kc_43, kc_45, kc_48, kc_56, kc_57, kc_59, kc_60, kc_61, kc_64, kc_73, kc_78, kc_91, kc_95, kc_96, kc_97, kc_98, kc_99, kc_100, kc_112, kc_122, kc_125, kc_126, kc_150, kc_162, kc_163, kc_168, kc_186, kc_190, kc_200, kc_250, kc_255, kc_355, kc_356, kc_404, kc_405, kc_429, kc_573, kc_999, kc_1000, kc_1002, kc_1100, kc_1891, kc_2200, kc_4719, kc_4869, kc_4881, kc_5148, kc_9999, kn_9999, kc_10000, kc_12345, kc_19741, kc_25433, kc_65536, kc_320403, kc_628412, kc_629093, kc_660401, kc_679843, kc_918640, kc_979410, kc_1178088, kc_6232410, kc_24644941, kc_36238189, kc_38270444, kc_392531318, kc_425693491, kc_1103515245, kc_1342154595, kc_2147483648, kc_42328242873, kc_891704255789, kc_1722105685577, kc_1858726030364, ct_0, ct_1, ct_2, ct_3, ct_4, ct_5, cf_0, cf_1, cf_2, cf_3, cf_4, cf_5, w_ty6, w_ty7, m_sv, m_z0, m_hd, m_g0, m_gs, m_s0, m_ss, m_ap, m_an, forall_const, true_and, and_true, ne_eq, not_true_eq_false, not_false_eq_true, false_implies, true_implies, implies_true, eq_self, reduceCtorEq, Nat.reduceDiv, Nat.reduceMod, Int.reduceToNat, or_true, true_or, or_false, false_or, or_self, m_it, m_if, m_c1, m_01, m_02, m_03, m_04, m_10, m_12, m_13, m_14, m_20, m_21, m_23, m_24, m_30, m_31, m_32, m_34, m_40, m_41, m_42, m_43]
  have hp2 := px_e hp p2_w q2_w hc_w
  obtain ⟨v, d1_w, d2_w, d3_w⟩ := c193 h2 18 hp2 (by decide) (by decide)
  obtain ⟨w, k1_w, k2, k3⟩ := c193 h2 19 hp2 (by decide) (by decide)
  have fin_w : (∃ c, tkW h2 c) → ∃ r h3, F 218 [182, a] ((a_g3, g), j_up h2 182 7 (j_iop 0 (h2 182 7) 1)) = some (1, r, (a_g3, g), h3) ∧ (¬j_hd [v] = 0 → ∃ r h5, F 216 [182, 9, 0] ((a_g3, g), h3) = some (1, r, (a_g3, g), h5) ∧ ((∃ w, [182, a, j_hd [v]] = [182, a, w]) ∧ QK P (r_T 0) (RJ P) h5 ∧ PX N h h5 ∧ EX (b + 1) h h5) ∧ ((N : Int) - h5 182 7).toNat < ((N : Int) - h2 182 7).toNat) ∧ (j_hd [v] = 0 → ∃ r h5, F 216 [182, 10, 0] ((a_g3, g), h3) = some (1, r, (a_g3, g), h5) ∧ ((∃ w, [182, a, j_hd [v]] = [182, a, w]) ∧ QK P (r_T 0) (RJ P) h5 ∧ PX N h h5 ∧ EX (b + 1) h h5) ∧ ((N : Int) - h5 182 7).toNat < ((N : Int) - h2 182 7).toNat) := by
    rintro ⟨c, t⟩
    rw [jat hp2]
    obtain ⟨h4, z1, z2⟩ := binE c216 ce hp hc_w q2_w p2_w x2_w (by rw [t.2.1]; decide) (Nat.le_refl _)
    obtain ⟨y1, y2, y3, y4, y5⟩ := z2 9 (by decide) (by decide)
    obtain ⟨w1_w, w2_w, w3_w, w4_w, w5⟩ := z2 10 (by decide) (by decide)
    have y6 := y3.2.2.2.2.2.1
    have w6_w := w3_w.2.2.2.2.2.1
    exact ⟨[], h4, z1, fun _ => ⟨[], _, y1, ⟨⟨_, rfl⟩, y2, y3, y4⟩, by omega⟩, fun _ => ⟨[], _, w1_w, ⟨⟨_, rfl⟩, w2_w, w3_w, w4_w⟩, by omega⟩⟩
  exact ⟨[v], h2, d1_w, fun k => ⟨[v], h2, d1_w, fin_w ⟨18, d3_w.mp k⟩⟩, fun k => ⟨[w], h2, k1_w, fun k2 => ⟨[v], h2, d1_w, fin_w ⟨19, k3.mp k2⟩⟩, fun _ => ⟨q2_w, p2_w, x2_w⟩⟩⟩
theorem g_218 {b : Nat} {a : Int} (c192 : G192 P N g (evF xs L ck K cW g_M n)) (c195 : G195 P N g (evF xs L ck K cW g_M n)) (c216 : G216 P N g (evF xs L ck K cW g_M n)) (ce : GE 219 b a P N g (evF xs L ck K cW g_M n)) : GE 218 (b + 1) a P N g (evF xs L ck K cW g_M (n + 1)) := fun h hp hc_w => by
  suffices hs : ∃ r h', evF xs L ck K cW g_M (n + 1) 218 [182, a] ((a_g3, g), h) = some (1, r, ((a_g3, g), h')) ∧ r = [] ∧ QK P (r_T 0) (RJ P) h' ∧ PX N h h' ∧ EX (b + 1) h h' by
    obtain ⟨r, h', e1_w, rfl, e2_w⟩ := hs
    exact ⟨h', e1_w, e2_w⟩
  refine tr_of gm_218 (B := fun r h' => r = [] ∧ QK P (r_T 0) (RJ P) h' ∧ PX N h h' ∧ EX (b + 1) h h') ?_
  show wS _ _ K bb_218 [182, a, 0] h _
  generalize evF xs L ck K cW g_M n = F at c192 c195 c216 ce ⊢
  unfold bb_218
  simp only [wf_4, wf_40, wf_5, wf_50, wf_6, wl_1, wt_1, wu_1, wa_1, wl_4, wt_4, wu_4, wa_4, wl_5, wt_5, wu_5, wa_5, wl_6, wt_6, wu_6, wa_6, wl_9, wt_9, wu_9, wa_9, wl_10, wt_10, wu_10, wa_10, wl_11, wt_11, wu_11, wa_11, wl_13, wt_13, wu_13, wa_13, wl_14, wt_14, wu_14, wa_14, wl_15, wt_15, wu_15, wa_15, wl_16, wt_16, wu_16, wa_16, wl_17, wt_17, wu_17, wa_17, wl_20, wt_20, wu_20, wa_20, wl_21, wt_21, wu_21, wa_21, wl_22, wt_22, wu_22, wa_22, wl_23, wt_23, wu_23, wa_23, wl_24, wt_24, wu_24, wa_24, wl_26, wt_26, wu_26, wa_26, wl_27, wt_27, wu_27, wa_27, wl_28, wt_28, wu_28, wa_28, we_1, we_3, we_10, we_14, we_15, we_16, we_17, we_18, we_20, we_21, we_22, we_24, we_25, we_26, we_27, we_28, we_30, we_31, we_32, wc_20, wc_21, wc_22, wc_24, wc_25, wc_26, wc_27, wc_3, wc_4, wc_7, wc_28, wc_32, ws_1, ws_2, ws_3, ws_4, ws_9, ws_10, ws_11, ws_14, ws_15, ws_16, ws_27, ws_17, ws_20, ws_28, kc_0, kc_1, kn_1, kc_2, kn_2, kc_3, kc_4, kc_5, kc_6, kc_7, kc_8, kc_9, kc_10, kc_12, kc_13, kc_14, kc_16, kc_17, kc_18, kc_19, kc_20, kc_21, kc_22, kc_24, kc_28, kc_30, kc_32, kc_37, kc_40, kc_41, kc_42, kc_43, kc_45, kc_48, kc_56, kc_57, kc_59, kc_60, kc_61, kc_64, kc_73, kc_78, kc_91, kc_95, kc_96, kc_97, kc_98, kc_99, kc_100, kc_112, kc_122, kc_125, kc_126, kc_150, kc_162, kc_163, kc_168, kc_186, kc_190, kc_200, kc_250, kc_255, kc_355, kc_356, kc_404, kc_405, kc_429, kc_573, kc_999, kc_1000, kc_1002, kc_1100, kc_1891, kc_2200, kc_4719, kc_4869, kc_4881, kc_5148, kc_9999, kn_9999, kc_10000, kc_12345, kc_19741, kc_25433, kc_65536, kc_320403, kc_628412, kc_629093, kc_660401, kc_679843, kc_918640, kc_979410, kc_1178088, kc_6232410, kc_24644941, kc_36238189, kc_38270444, kc_392531318, kc_425693491, kc_1103515245, kc_1342154595, kc_2147483648, kc_42328242873, kc_891704255789, kc_1722105685577, kc_1858726030364, ct_0, ct_1, ct_2, ct_3, ct_4, ct_5, cf_0, cf_1, cf_2, cf_3, cf_4, cf_5, w_ty6, w_ty7, m_sv, m_z0, m_hd, m_g0, m_gs, m_s0, m_ss, m_ap, m_an, forall_const, true_and, and_true, ne_eq, not_true_eq_false, not_false_eq_true, false_implies, true_implies, implies_true, eq_self, reduceCtorEq, Nat.reduceDiv, Nat.reduceMod, Int.reduceToNat, or_true, true_or, or_false, false_or, or_self, m_it, m_if, m_c1, m_01, m_02, m_03, m_04, m_10, m_12, m_13, m_14, m_20, m_21, m_23, m_24, m_30, m_31, m_32, m_34, m_40, m_41, m_42, m_43]
  obtain ⟨h1, f1_w, q1_w, p1_w, x1_w⟩ := ce h hp hc_w
  have hp1 := px_e hp p1_w q1_w hc_w
  obtain ⟨v, d1_w, d2_w, d3_w⟩ := c192 h1 60 hp1 ⟨by decide, by decide⟩
  obtain ⟨w, h3, k1_w, k2, k3, k4⟩ := c195 h1 60 hp1 ⟨by decide, by decide⟩
  obtain ⟨u, h4, m1_w, m2_w, m3_w, m4_w⟩ := c195 h1 61 hp1 ⟨by decide, by decide⟩
  have fin_w : ∀ {h3}, (∃ c, tkS h1 c ∧ h3 = atp h1) → ∃ r h2, F 219 [182, a] ((a_g3, g), h3) = some (1, r, (a_g3, g), h2) ∧ (¬j_hd [v] = 0 → ∃ r h5, F 216 [182, 7, 0] ((a_g3, g), h2) = some (1, r, (a_g3, g), h5) ∧ QK P (r_T 0) (RJ P) h5 ∧ PX N h h5 ∧ EX (b + 1) h h5) ∧ (j_hd [v] = 0 → ∃ r h5, F 216 [182, 8, 0] ((a_g3, g), h2) = some (1, r, (a_g3, g), h5) ∧ QK P (r_T 0) (RJ P) h5 ∧ PX N h h5 ∧ EX (b + 1) h h5) := by
    rintro h3 ⟨c, t, rfl⟩
    obtain ⟨h4, z1, z2⟩ := binE c216 ce hp hc_w q1_w p1_w (x1_w.mono (by omega)) (by rw [t.2.1]; decide) (Nat.le_refl _)
    obtain ⟨y1, y2, y3, y4, y5⟩ := z2 7 (by decide) (by decide)
    obtain ⟨w1_w, w2_w, w3_w, w4_w, w5⟩ := z2 8 (by decide) (by decide)
    exact ⟨[], h4, z1, fun _ => ⟨[], _, y1, y2, y3, y4⟩, fun _ => ⟨[], _, w1_w, w2_w, w3_w, w4_w⟩⟩
  refine ⟨[], h1, f1_w, [v], h1, d1_w, [w], h3, k1_w, fun k => fin_w ⟨60, k3 k⟩, fun k => ?_⟩
  obtain ⟨k5, rfl⟩ := k4 k
  exact ⟨[u], h4, m1_w, fun k => fin_w ⟨61, m3_w k⟩, fun k => by
    obtain ⟨k5, rfl⟩ := m4_w k
    exact ⟨q1_w, p1_w, x1_w.mono (by omega)⟩⟩
end PAR6
