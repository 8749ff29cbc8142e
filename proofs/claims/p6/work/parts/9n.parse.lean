/-! ===== the reference's parser: a class ===== -/
def NL (i : Nat) : Prop := i ≠ 99
def B212 (P : Int × Int) (N : Nat) (h : XH) (r : List Int) (h' : XH) : Prop := r = [] ∧ PK P N h' ∧ PF N NL h h'
def G212 (f : Nat) (P : Int × Int) (N : Nat) (g : Nat × Nat) (F : XP) : Prop := ∀ (h : XH), PK P N h → h 182 8 = 0 → h 184 (h 182 7).toNat ≠ 0 → ∃ h', F f [182] ((a_g3, g), h) = some (1, [], ((a_g3, g), h')) ∧ PK P N h' ∧ PF N NL h h'
theorem fit_c : ∀ m : Nat, m < 4 → g_fit (112 + 14 * m) (113 + 14 * m) (1, 0, 999) = true ∧ g_fit (113 + 14 * m) (114 + 14 * m) (1, 0, 12) = true ∧ g_fit (114 + 14 * m) (126 + 14 * m) (1, 0, 99) = true := by decide +kernel
theorem fit_m : ∀ m : Nat, m < 6 → g_fit (168 + 3 * m) (171 + 3 * m) (1, 0, 3) = true := by decide +kernel
section PARC
variable {P : Int × Int} {N : Nat} {g : Nat × Nat} {xs : Nat → Int} {L K n : Nat} {ck : Nat → List Nat} {cW : Nat → Nat → Int} {h h' h1 h2 : XH} {F : XP}
theorem r_96 (hQ : QK P (r_T 0) (RJ P) h) : 0 ≤ h 188 96 ∧ h 188 96 ≤ 4 := by
  have k : IV P (1, 0, 4) (h 188 96) := q_cell hQ (q := 188) (r := 26) (x := (96, 97, (1, 0, 4))) (by decide) rfl rfl (by decide) (by decide)
  exact ⟨k.1, k.2.1⟩
theorem r_97 (hQ : QK P (r_T 0) (RJ P) h) : 0 ≤ h 188 97 ∧ h 188 97 ≤ 4 := by
  have k : IV P (1, 0, 4) (h 188 97) := q_cell hQ (q := 188) (r := 27) (x := (97, 98, (1, 0, 4))) (by decide) rfl rfl (by decide) (by decide)
  exact ⟨k.1, k.2.1⟩
theorem r_98 (hQ : QK P (r_T 0) (RJ P) h) : 0 ≤ h 188 98 ∧ h 188 98 ≤ 6 := by
  have k : IV P (1, 0, 6) (h 188 98) := q_cell hQ (q := 188) (r := 28) (x := (98, 99, (1, 0, 6))) (by decide) rfl rfl (by decide) (by decide)
  exact ⟨k.1, k.2.1⟩
/-- a cell_w of the draft is_w written_w -/
theorem gw_QK (hp : PK P N h) {i lo_w hi_w : Nat} {u v : Int} (hi0_w : 95 ≤ i) (h99 : i ≠ 99) (hu : u ≤ 9999) (v0_w : 0 ≤ v) (v1_w : v ≤ u) (hf : g_fit lo_w hi_w (1, 0, u) = true) (k1_w : lo_w ≤ i) (k2 : i < hi_w) : QK P (r_T 0) (RJ P) (j_up h 188 i v) ∧ PF N NL h (j_up h 188 i v) := by
  have hin : InI v := ⟨by omega, by omega⟩
  exact ⟨dw_QK hp.1 (ht_up hp.1.1 (by decide) hin) (Or.inl ⟨rfl, hi0_w⟩) (g_fit_ok hf k1_w k2 ⟨v0_w, v1_w, hin⟩), ⟨fun o k e e2_w e3_w => up_ne (fun z => e2_w z.1 (by rw [z.2]; exact h99)), by rw [up_ne (fun z => absurd z.1 (by decide))]; exact hp.2.1.1, by rw [up_ne (fun z => absurd z.1 (by decide))]; exact ht_fld hp.1 rfl, fun _ => up_ne (fun z => absurd z.1 (by decide)), by rw [up_ne (fun z => absurd z.1 (by decide))]; exact Int.le_refl _, by rw [up_ne (fun z => absurd z.1 (by decide))]; exact hp.2.1.2.2.1⟩⟩
theorem gw_PK (hp : PK P N h) {i lo_w hi_w : Nat} {u v : Int} (hi0_w : 95 ≤ i) (h99 : i ≠ 99) (hu : u ≤ 9999) (v0_w : 0 ≤ v) (v1_w : v ≤ u) (hf : g_fit lo_w hi_w (1, 0, u) = true) (k1_w : lo_w ≤ i) (k2 : i < hi_w) (s1_w : i ≠ 96) (s2_w : i ≠ 98) (s3_w : ∀ m : Nat, (m : Int) < h 188 98 → i ≠ 169 + 3 * m) (s4_w : ∀ m : Nat, (m : Int) < h 188 96 → i ≠ 113 + 14 * m) : PK P N (j_up h 188 i v) ∧ PF N NL h (j_up h 188 i v) := by
  obtain ⟨q, e⟩ := gw_QK hp hi0_w h99 hu v0_w v1_w hf k1_w k2
  exact ⟨⟨q, e.pt hp.2.1, DG.up hp.1 hp.2.2 (up_ne (fun z => s1_w z.2.symm)) (up_ne (fun z => s2_w z.2.symm)) (fun k hk => up_ne (fun z => s3_w k hk z.2.symm)) (fun k hk => up_ne (fun z => s4_w k hk z.2.symm))⟩, e⟩
theorem pf_nl {W : Nat → Prop} (e : PF N W h h') (hw : ¬W 99) : PF N NL h h' := e.mono (fun k hk z => hw (z ▸ hk))
theorem g_212 (c197 : G197 P N g (evF xs L ck K cW g_M n)) (c200 : G200 P N g (evF xs L ck K cW g_M n)) (c207 : G207 g (evF xs L ck K cW g_M n)) (c208 : G208 P N g (evF xs L ck K cW g_M n)) (c211 : G211 P N g (evF xs L ck K cW g_M n)) : G212 212 P N g (evF xs L ck K cW g_M (n + 1)) := fun h hp f0_w ht => by
  suffices hs : ∃ r h', evF xs L ck K cW g_M (n + 1) 212 [182] ((a_g3, g), h) = some (1, r, ((a_g3, g), h')) ∧ B212 P N h r h' by
    obtain ⟨r, h', e1_w, rfl, e2_w⟩ := hs
    exact ⟨h', e1_w, e2_w⟩
  refine tr_of gm_212 ?_
  show wS _ _ K bb_212 [182, 0, 0, 0, 0] h _
  generalize evF xs L ck K cW g_M n = F at c197 c200 c207 c208 c211 ⊢
  unfold bb_212
  simp only [wf_4, wf_40, wf_5, wf_50, wf_6, wl_1, wt_1, wu_1, wa_1, wl_4, wt_4, wu_4, wa_4, wl_5, wt_5, wu_5, wa_5, wl_6, wt_6, wu_6, wa_6, wl_9, wt_9, wu_9, wa_9, wl_10, wt_10, wu_10, wa_10, wl_11, wt_11, wu_11, wa_11, wl_13, wt_13, wu_13, wa_13, wl_14, wt_14, wu_14, wa_14, wl_15, wt_15, wu_15, wa_15, wl_16, wt_16, wu_16, wa_16, wl_17, wt_17, wu_17, wa_17, wl_20, wt_20, wu_20, wa_20, wl_21, wt_21, wu_21, wa_21, wl_22, wt_22, wu_22, wa_22, wl_23, wt_23, wu_23, wa_23, wl_24, wt_24, wu_24, wa_24, wl_26, wt_26, wu_26, wa_26, wl_27, wt_27, wu_27, wa_27, wl_28, wt_28, wu_28, wa_28, we_1, we_3, we_10, we_14, we_15, we_16, we_17, we_18, we_20, we_21, we_22, we_24, we_25, we_26, we_27, we_28, we_30, we_31, we_32, wc_20, wc_21, wc_22, wc_24, wc_25, wc_26, wc_27, wc_3, wc_4, wc_7, wc_28, wc_32, ws_1, ws_2, ws_3, ws_4, ws_9, ws_10, ws_11, ws_14, ws_15, ws_16, ws_27, ws_17, ws_20, ws_28, kc_0, kc_1, kn_1, kc_2, kn_2, kc_3, kc_4, kc_5, kc_6, kc_7, kc_8, kc_9, kc_10, kc_12, kc_13, kc_14, kc_16, kc_17, kc_18, kc_19, kc_20, kc_21, kc_22, kc_24, kc_28, kc_30, kc_32, kc_37, kc_40, kc_41, kc_42, kc_43, kc_45, kc_48, kc_56, kc_57, kc_59, kc_60, kc_61, kc_64, kc_73, kc_78, kc_91, kc_95, kc_96, kc_97, kc_98, kc_99, kc_100, kc_112, kc_122, kc_125, kc_126, kc_150, kc_162, kc_163, kc_168, kc_186, kc_190, kc_200, kc_250, kc_255, kc_355, kc_356, kc_404, kc_405, kc_429, kc_573, kc_999, kc_1000, kc_1002, kc_1100, kc_1891, kc_2200, kc_4719, kc_4869, kc_4881, kc_5148, kc_9999, kn_9999, kc_10000, kc_12345, kc_19741, kc_25433, kc_65536, kc_320403, kc_628412, kc_629093, kc_660401, kc_679843, kc_918640, kc_979410, kc_1178088, kc_6232410, kc_24644941, kc_36238189, kc_38270444, kc_392531318, kc_425693491, kc_1103515245, kc_1342154595, kc_2147483648, kc_42328242873, kc_891704255789, kc_1722105685577, kc_1858726030364, ct_0, ct_1, ct_2, ct_3, ct_4, ct_5, cf_0, cf_1, cf_2, cf_3, cf_4, cf_5, w_ty6, w_ty7, m_sv, m_z0, m_hd, m_g0, m_gs, m_s0, m_ss, m_ap, m_an, forall_const, true_and, and_true, ne_eq, not_true_eq_false, not_false_eq_true, false_implies, true_implies, implies_true, eq_self, reduceCtorEq, Nat.reduceDiv, Nat.reduceMod, Int.reduceToNat, or_true, true_or, or_false, false_or, or_self, m_it, m_if, m_c1, m_01, m_02, m_03, m_04, m_10, m_12, m_13, m_14, m_20, m_21, m_23, m_24, m_30, m_31, m_32, m_34, m_40, m_41, m_42, m_43]
  obtain ⟨b0, b4⟩ := r_96 hp.1
  obtain ⟨h1, x1_w, p1_w, e1_w, l1⟩ := c208 h 0 (h 188 96) 4 hp f0_w ht (by decide) b0 b4 (by decide)
  obtain ⟨h2, x2_w, a2, -⟩ := c197 h1 3 p1_w (by decide) (by decide)
  have p2_w := p1_w.pa a2
  obtain ⟨v, h3, x3, a3, iv_w, ok, -⟩ := c200 h2 0 999 p2_w ⟨by decide, by decide⟩ ⟨by decide, by decide⟩
  have p3_w := p2_w.pa a3
  obtain ⟨h4, x4_w, a4, -⟩ := c197 h3 4 p3_w (by decide) (by decide)
  have p4_w := p3_w.pa a4
  have e4_w : PF N NL h h4 := pf_nl (W := fun _ => False) (e1_w.tr (a2.pf.tr (a3.pf.tr a4.pf))) (fun z => z)
  have x0_w : F 207 [182, 1] ((a_g3, g), h) = some (1, [h 188 96], ((a_g3, g), h)) := c207 h 1 (by decide) (by decide)
  refine ⟨_, h, x0_w, [], h1, x1_w, [], h2, x2_w, [v], h3, x3, [], h4, x4_w, fun k => ⟨fun z => by omega, fun _ => ⟨rfl, p4_w, e4_w⟩⟩, fun k => ?_⟩
  have z4 : h4 182 8 = 0 := by
    have := p4_w.2.1.1
    omega
  have z3 : h3 182 8 = 0 := Decidable.byContradiction fun z => absurd z4 (by rw [a4.2.2.2.1 z]; exact z)
  have z2 : h2 182 8 = 0 := Decidable.byContradiction fun z => absurd z3 (by rw [a3.2.2.2.1 z]; exact z)
  have z1 : h1 182 8 = 0 := Decidable.byContradiction fun z => absurd z2 (by rw [a2.2.2.2.1 z]; exact z)
  obtain ⟨v0_w, v1_w, -⟩ := ok z3
  have m4_w := l1 z1
  have g4 : ∀ i, h4 188 i = h 188 i := fun i => (pf_g (W := fun _ => False) (e1_w.tr (a2.pf.tr (a3.pf.tr a4.pf))) (fun z => z))
  obtain ⟨m, hm_w⟩ : ∃ m : Nat, h 188 96 = (m : Int) := ⟨(h 188 96).toNat, by omega⟩
  have hm4 : m < 4 := by omega
  obtain ⟨t1_w, t2_w, t3_w⟩ := fit_c m hm4
  have j1 : j_iop 0 112 (j_iop 2 14 (h 188 96)) = 112 + 14 * (m : Int) := by
    rw [hm_w, jmul (x := 14) (y := (m : Int)) (by omega) (by omega), jadd (by omega) (by omega)]
  have j2_w : j_iop 0 (112 + 14 * (m : Int)) 2 = 114 + 14 * (m : Int) := by
    rw [jadd (by omega) (by omega)]
    omega
  have j3_w : j_iop 0 (112 + 14 * (m : Int)) 1 = 113 + 14 * (m : Int) := by
    rw [jadd (by omega) (by omega)]
    omega
  have ro : RowOK P h4 (114 + 14 * (m : Int)) 99 := by
    refine ⟨by omega, by omega, by decide, by decide, fun i w i0 i1_w w0_w w1_w => g_fit_ok t3_w (by omega) (by omega) ⟨w0_w, w1_w, by omega, by omega⟩, fun i i0 i1_w => ⟨by omega, by omega, fun k => by omega, fun k => ?_⟩⟩
    rw [g4, hm_w]
    omega
  obtain ⟨w, h5, x5_w, p5_w, e5_w, iw, w5⟩ := c211 h4 _ 99 p4_w z4 ro
  have n5_w : PF N NL h h5 := e4_w.tr (pf_nl e5_w (fun z => by have := z.1; omega))
  have g96 : h5 188 96 = (m : Int) := by
    rw [pf_g e5_w (fun z => by have := z.1; omega), g4, hm_w]
  have jh : j_hd [h 188 96] = h 188 96 := rfl
  simp only [jh, j1, j2_w, j3_w]
  refine ⟨[w], h5, x5_w, fun z5 => ?_, fun z5 => ⟨rfl, p5_w, n5_w⟩⟩
  obtain ⟨w0_w, w1_w⟩ := w5 z5
  have k1_w : (112 + 14 * (m : Int)).toNat = 112 + 14 * m := by omega
  have k2 : (113 + 14 * (m : Int)).toNat = 113 + 14 * m := by omega
  refine ⟨⟨by omega, by omega⟩, ⟨by omega, by omega⟩, ⟨by decide, by decide⟩, ?_⟩
  rw [k1_w, k2]
  obtain ⟨p6_w, n6_w⟩ := gw_PK p5_w (i := 112 + 14 * m) (by omega) (by omega) (by decide) v0_w v1_w t1_w (by omega) (by omega) (by omega) (by omega) (fun k _ => by omega) (fun k _ => by omega)
  have g96' : j_up h5 188 (112 + 14 * m) v 188 96 = (m : Int) := by
    rw [up_ne (fun z => by have := z.2; omega), g96]
  obtain ⟨p7_w, n7⟩ := gw_PK p6_w (i := 113 + 14 * m) (by omega) (by omega) (by decide) (v := w) (by omega) w1_w t2_w (by omega) (by omega) (by omega) (by omega) (fun k _ => by omega) (fun k hk => by rw [g96'] at hk; omega)
  have g96'' : j_up (j_up h5 188 (112 + 14 * m) v) 188 (113 + 14 * m) w 188 96 = (m : Int) := by
    rw [up_ne (fun z => by have := z.2; omega), g96']
  rw [show j_hd [w] = w from rfl, show j_hd [v] = v from rfl, g96'', jadd (x := (m : Int)) (y := 1) (by omega) (by omega)]
  have cw : j_up (j_up h5 188 (112 + 14 * m) v) 188 (113 + 14 * m) w 188 (113 + 14 * m) = w := up_eq
  generalize j_up (j_up h5 188 (112 + 14 * m) v) 188 (113 + 14 * m) w = h7 at p7_w n7 g96'' cw ⊢
  obtain ⟨q8_w, n8⟩ := gw_QK p7_w (i := 96) (lo_w := 96) (hi_w := 97) (u := 4) (v := (m : Int) + 1) (by decide) (by decide) (by decide) (by omega) (by omega) (by decide +kernel) (by decide) (by decide)
  refine ⟨rfl, ⟨q8_w, n8.pt p7_w.2.1, ?_⟩, n5_w.tr (n6_w.tr (n7.tr n8))⟩
  have d := p7_w.2.2
  have e98_w : j_up h7 188 96 ((m : Int) + 1) 188 98 = h7 188 98 := up_ne (fun z => absurd z.2 (by decide))
  have e96 : j_up h7 188 96 ((m : Int) + 1) 188 96 = (m : Int) + 1 := up_eq
  unfold DG
  rw [e98_w, e96]
  refine ⟨fun i hi_w => ?_, fun c hc_w => ?_⟩
  · rw [up_ne (fun z => by have := z.2; omega)]
    have k := d.1 i hi_w
    rw [g96''] at k
    omega
  · rw [up_ne (fun z => by have := z.2; omega)]
    by_cases e : c = m
    · subst e
      rw [show 95 + (18 + 14 * c) = 113 + 14 * c by omega, cw]
      omega
    · exact d.2 c (by rw [g96'']; omega)
end PARC
