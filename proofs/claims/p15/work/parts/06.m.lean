section
/-! ===== the reference's parser: a line of a grid ===== -/
/-- the law_w that is_w drafted -/
def DL (h : XH) : Prop := h 188 99 = -1 ∨ h 182 8 ≠ 0 ∨ (0 ≤ h 188 99 ∧ ∃ l : List Int, Seg (h 189) (1100 + (h 188 99).toNat) l ∧ h 189 (1100 + (h 188 99).toNat + l.length) = 0 ∧ h 188 99 + l.length + 1 ≤ h 182 12 ∧ htO 0 l = some 1)
def DR (P : Int × Int) (N : Nat) (h : XH) : Prop := PK P N h ∧ h 182 12 ≤ h 182 7 ∧ DL h
def G210 (P : Int × Int) (N : Nat) (g : Nat × Nat) (F : XP) : Prop := ∀ (h : XH), DR P N h → h 182 8 = 0 → ∃ h', F 210 [182] ((a_g3, g), h) = some (1, [], ((a_g3, g), h')) ∧ DR P N h' ∧ h 182 7 ≤ h' 182 7
def B210 (P : Int × Int) (N : Nat) (h : XH) (r : List Int) (h' : XH) : Prop := r = [] ∧ DR P N h' ∧ h 182 7 ≤ h' 182 7
section PARE
variable {P : Int × Int} {N : Nat} {g : Nat × Nat} {xs : Nat → Int} {L K n : Nat} {ck : Nat → List Nat} {cW : Nat → Nat → Int} {h h' h1 h2 : XH} {F : XP}
theorem DL.pf (d : DL h) (e : PF N NL h h') : DL h' := by
  have e99_w : h' 188 99 = h 188 99 := pf_g e (fun z => z rfl)
  have e12_w : h' 182 12 = h 182 12 := e.1 182 12 (fun _ => by decide) (fun z => absurd z (by decide)) (fun z => absurd z (by decide))
  rcases d with d | d | ⟨d0_w, l, d1_w, d2_w, d3_w, d4_w⟩
  · exact Or.inl (e99_w.trans d)
  · exact Or.inr (Or.inl (by rw [e.2.2.2.1 d]; exact d))
  · refine Or.inr (Or.inr ?_)
    rw [e99_w, e12_w]
    exact ⟨d0_w, l, fun k hk => (pf_same e (by decide) (by decide) (by decide)).trans (d1_w k hk), (pf_same e (by decide) (by decide) (by decide)).trans d2_w, d3_w, d4_w⟩
theorem DR.pf (d : DR P N h) (p : PK P N h') (e : PF N NL h h') : B210 P N h [] h' := by
  have e12_w : h' 182 12 = h 182 12 := e.1 182 12 (fun _ => by decide) (fun z => absurd z (by decide)) (fun z => absurd z (by decide))
  have e7_w := e.2.2.2.2.1
  have d2_w := d.2.1
  exact ⟨rfl, ⟨p, by omega, d.2.2.pf e⟩, e7_w⟩
/-- the law's line -/
theorem law_E (hp : PK P N h) (hc_w : h 182 12 ≤ h 182 7) (h1p : PK P N h1) (e1_w : PF N (fun i => i = 186) h h1) (at1_w : h1 182 7 = h 182 7 + 1) (px : PX N (j_up h1 188 99 (h1 182 12)) h2) (q : QK P (r_T 0) (RJ P) h2) (ex_w : EX 25 (j_up h1 188 99 (h1 182 12)) h2) : B210 P N h [] (emt h2 0) := by
  have e12_w : h1 182 12 = h 182 12 := e1_w.1 182 12 (fun _ => by decide) (fun z => absurd z (by decide)) (fun z => absurd z (by decide))
  have u12 : j_up h1 188 99 (h1 182 12) 182 12 = h 182 12 := (up_ne (fun z => absurd z.1 (by decide))).trans e12_w
  have u7 : j_up h1 188 99 (h1 182 12) 182 7 = h 182 7 + 1 := (up_ne (fun z => absurd z.1 (by decide))).trans at1_w
  obtain ⟨a1_w, a2, a3, a4, a5, a6, a7, a8⟩ := px
  obtain ⟨_, ⟨t1_w, t2_w, t3_w, t4_w, t5_w, t6, t7, t8⟩, _⟩ := hp
  obtain ⟨_, ⟨s1_w, s2_w, s3_w, s4_w, s5, s6_w, s7, s8⟩, sd_w⟩ := h1p
  rw [u7] at a5 a8
  rw [u12] at a7 a8
  have o : ∀ q : Nat, q ≠ 182 → q ≠ 189 → q ≠ 188 → ∀ k, emt h2 0 q k = h1 q k := fun q z1 z2 z3 k => by
    rw [emt_ob (fun z => absurd z z1) (fun z => absurd z z2), a1_w q k (fun z => absurd z z1) (fun z => absurd z z2)]
    exact up_ne (fun z => z3 z.1)
  have o8_w : ∀ k, k ≠ 99 → emt h2 0 188 k = h1 188 k := fun k hk => by
    rw [emt_ob (fun z => absurd z (by decide)) (fun z => absurd z (by decide)), a1_w 188 k (fun z => absurd z (by decide)) (fun z => absurd z (by decide))]
    exact up_ne (fun z => hk z.2)
  have o99 : emt h2 0 188 99 = h 182 12 := by
    rw [emt_ob (fun z => absurd z (by decide)) (fun z => absurd z (by decide)), a1_w 188 99 (fun z => absurd z (by decide)) (fun z => absurd z (by decide)), up_eq, e12_w]
  refine ⟨rfl, ⟨⟨emt_QK q in_0 ⟨by omega, by omega⟩, ⟨?_, ?_, ?_, s4_w, ?_, ?_, ?_, ?_⟩, ?_⟩, ?_, ?_⟩, ?_⟩
  · rw [emt_8]
    exact a2
  · rw [emt_7]
    omega
  · rw [emt_7]
    exact a6
  · rw [o 184 (by decide) (by decide) (by decide)]
    exact s5
  · rw [emt_12]
    omega
  · rw [emt_12, emt_7]
    omega
  · intro i hi_w hs
    rw [o 184 (by decide) (by decide) (by decide)] at hs
    rw [o 186 (by decide) (by decide) (by decide)]
    exact s8 i hi_w hs
  · unfold DG
    rw [o8_w 98 (by decide), o8_w 96 (by decide)]
    refine ⟨fun m hm_w => ?_, fun c hc_w => ?_⟩
    · rw [o8_w _ (by omega)]
      exact sd_w.1 m hm_w
    · rw [o8_w _ (by omega)]
      exact sd_w.2 c hc_w
  · rw [emt_12, emt_7]
    omega
  · by_cases z : emt h2 0 182 8 = 0
    · obtain ⟨l, l1, l2, l3⟩ := ex_w (emt_8.symm.trans z)
      rw [u12] at l1 l2
      refine Or.inr (Or.inr ?_)
      rw [o99, emt_12, l2]
      refine ⟨t6, l, fun k hk => ?_, ?_, by omega, l3 0 (by decide)⟩
      · rw [emt_ob (fun z => absurd z (by decide)) (fun _ => by omega)]
        exact l1 k hk
      · unfold emt
        rw [up_ne (fun z => absurd z.1 (by decide)), show 1100 + (h 182 12).toNat + l.length = 1100 + (h2 182 12).toNat by omega, up_eq]
    · exact Or.inr (Or.inl z)
  · rw [emt_7]
    omega
theorem g_210 (c191 : G191 P N g (evF xs L ck K cW g_M n)) (c193 : G193 P N g (evF xs L ck K cW g_M n)) (c200 : G200 P N g (evF xs L ck K cW g_M n)) (c207 : G207 g (evF xs L ck K cW g_M n)) (c208 : G208 P N g (evF xs L ck K cW g_M n)) (c209 : G209 P N g (evF xs L ck K cW g_M n)) (c211 : G211 P N g (evF xs L ck K cW g_M n)) (c212 : G212 212 P N g (evF xs L ck K cW g_M n)) (c213 : G212 213 P N g (evF xs L ck K cW g_M n)) (c216 : G216 P N g (evF xs L ck K cW g_M n)) (c217 : GE 217 25 0 P N g (evF xs L ck K cW g_M n)) : G210 P N g (evF xs L ck K cW g_M (n + 1)) := fun h hd_w f0_w => by
  suffices hs : ∃ r h', evF xs L ck K cW g_M (n + 1) 210 [182] ((a_g3, g), h) = some (1, r, ((a_g3, g), h')) ∧ B210 P N h r h' by
    obtain ⟨r, h', e1_w, rfl, e2_w⟩ := hs
    exact ⟨h', e1_w, e2_w⟩
  refine tr_of gm_210 ?_
  show wS _ _ K bb_210 [182] h _
  generalize evF xs L ck K cW g_M n = F at c191 c193 c200 c207 c208 c209 c211 c212 c213 c216 c217 ⊢
  unfold bb_210
  simp only [wf_4, wf_40, wf_5, wf_50, wf_6, wl_1, wt_1, wu_1, wa_1, wl_4, wt_4, wu_4, wa_4, wl_5, wt_5, wu_5, wa_5, wl_6, wt_6, wu_6, wa_6, wl_9, wt_9, wu_9, wa_9, wl_10, wt_10, wu_10, wa_10, wl_11, wt_11, wu_11, wa_11, wl_13, wt_13, wu_13, wa_13, wl_14, wt_14, wu_14, wa_14, wl_15, wt_15, wu_15, wa_15, wl_16, wt_16, wu_16, wa_16, wl_17, wt_17, wu_17, wa_17, wl_20, wt_20, wu_20, wa_20, wl_21, wt_21, wu_21, wa_21, wl_22, wt_22, wu_22, wa_22, wl_23, wt_23, wu_23, wa_23, wl_24, wt_24, wu_24, wa_24, wl_26, wt_26, wu_26, wa_26, wl_27, wt_27, wu_27, wa_27, wl_28, wt_28, wu_28, wa_28, we_1, we_3, we_10, we_14, we_15, we_16, we_17, we_18, we_20, we_21, we_22, we_24, we_25, we_26, we_27, we_28, we_30, we_31, we_32, wc_20, wc_21, wc_22, wc_24, wc_25, wc_26, wc_27, wc_3, wc_4, wc_7, wc_28, wc_32, ws_1, ws_2, ws_3, ws_4, ws_9, ws_10, ws_11, ws_14, ws_15, ws_16, ws_27, ws_17, ws_20, ws_28, kc_0, kc_1, kn_1, kc_2, kn_2, kc_3, kc_4, kc_5, kc_6, kc_7, kc_8, kc_9, kc_10, kc_12, kc_13, kc_14, kc_16, kc_17, kc_18, kc_19, kc_20, kc_21, kc_22, kc_24, kc_28, kc_30, kc_32, kc_37, kc_40, kc_41, kc_42, kc_43, kc_45, kc_48, kc_56, kc_57, kc_59, kc_60, kc_61, kc_64, kc_73, kc_78, kc_91, kc_95, kc_96, kc_97, kc_98, kc_99, kc_100, kc_112, kc_122, kc_125, kc_126, kc_150, kc_162, kc_163, kc_168, kc_186, kc_190, kc_200, kc_250, kc_255, kc_355, kc_356, kc_404, kc_405, kc_429, kc_573, kc_999, kc_1000, kc_1002, kc_1100, kc_1891, kc_2200, kc_4719, kc_4869, kc_4881, kc_5148, kc_9999, kn_9999, kc_10000, kc_12345, kc_19741, kc_25433, kc_65536, kc_320403, kc_628412, kc_629093, kc_660401, kc_679843, kc_918640, kc_979410, kc_1178088, kc_6232410, kc_24644941, kc_36238189, kc_38270444, kc_392531318, kc_425693491, kc_1103515245, kc_1342154595, kc_2147483648, kc_42328242873, kc_891704255789, kc_1722105685577, kc_1858726030364, ct_0, ct_1, ct_2, ct_3, ct_4, ct_5, cf_0, cf_1, cf_2, cf_3, cf_4, cf_5, w_ty6, w_ty7, m_sv, m_z0, m_hd, m_g0, m_gs, m_s0, m_ss, m_ap, m_an, forall_const, true_and, and_true, ne_eq, not_true_eq_false, not_false_eq_true, false_implies, true_implies, implies_true, eq_self, reduceCtorEq, Nat.reduceDiv, Nat.reduceMod, Int.reduceToNat, or_true, true_or, or_false, false_or, or_self, m_it, m_if, m_c1, m_01, m_02, m_03, m_04, m_10, m_12, m_13, m_14, m_20, m_21, m_23, m_24, m_30, m_31, m_32, m_34, m_40, m_41, m_42, m_43]
  have hp := hd_w.1
  obtain ⟨v2, w2_w, -, i2_w⟩ := c193 h 2 hp (by decide) (by decide)
  obtain ⟨v5, w5, -, i5_w⟩ := c193 h 5 hp (by decide) (by decide)
  obtain ⟨v6, w6_w, -, i6_w⟩ := c193 h 6 hp (by decide) (by decide)
  obtain ⟨v0_w, w0_w, -, i0⟩ := c193 h 0 hp (by decide) (by decide)
  obtain ⟨v1_w, w1_w, -, i1_w⟩ := c193 h 1 hp (by decide) (by decide)
  obtain ⟨v8, w8, -, i8_w⟩ := c193 h 8 hp (by decide) (by decide)
  have wd : ∀ {w}, tkW h w → h 184 (h 182 7).toNat ≠ 0 := fun t => by rw [t.2.1]; decide
  refine ⟨[v2], h, w2_w, fun k => ?_, fun _ => ⟨[v5], h, w5, fun k => ?_, fun _ => ⟨[v6], h, w6_w, fun k => ?_, fun _ => ⟨[v0_w], h, w0_w, fun k => ?_, fun _ => ⟨[v1_w], h, w1_w, fun k => ?_, fun _ => ⟨[v8], h, w8, fun k => ?_, fun _ => ?_⟩⟩⟩⟩⟩⟩
  · obtain ⟨h1, x1_w, p1_w, e1_w⟩ := c212 h hp f0_w (wd (i2_w.mp k))
    exact ⟨[], h1, x1_w, hd_w.pf p1_w e1_w⟩
  · obtain ⟨b0, b4⟩ := r_97 hp.1
    obtain ⟨h1, x1_w, p1_w, e1_w, l1⟩ := c208 h 4 (h 188 97) 4 hp f0_w (wd (i5_w.mp k)) (by decide) b0 b4 (by decide)
    have g1 : h1 188 97 = h 188 97 := pf_g e1_w (fun z => z)
    have m1_w : PF N NL h h1 := pf_nl e1_w (fun z => z)
    have y0 : F 207 [182, 2] ((a_g3, g), h) = some (1, [h 188 97], ((a_g3, g), h)) := c207 h 2 (by decide) (by decide)
    refine ⟨_, h, y0, [], h1, x1_w, ⟨by decide, by decide⟩, fun z => ?_, fun z => ?_⟩
    · rw [jadd (by omega) (by omega), Int.add_zero, up_self]
      exact hd_w.pf p1_w m1_w
    · have z1 : h1 182 8 = 0 := by
        have := p1_w.2.1.1
        omega
      have := l1 z1
      rw [jadd (by omega) (by omega)]
      obtain ⟨q1_w, s1_w⟩ := gw_PK p1_w (i := 97) (lo_w := 97) (hi_w := 98) (u := 4) (v := h1 188 97 + 1) (by decide) (by decide) (by decide) (by omega) (by omega) (by decide +kernel) (by decide) (by decide) (by decide) (by decide) (fun k _ => by omega) (fun k _ => by omega)
      exact hd_w.pf q1_w (m1_w.tr s1_w)
  · obtain ⟨h1, x1_w, p1_w, e1_w⟩ := c213 h hp f0_w (wd (i6_w.mp k))
    exact ⟨[], h1, x1_w, hd_w.pf p1_w e1_w⟩
  · obtain ⟨v, h1, x1_w, p1_w, e1_w, ok, -⟩ := c209 h 0 hp f0_w (wd (i0.mp k)) (by decide) (by decide)
    have m1_w : PF N NL h h1 := pf_nl e1_w (fun z => absurd z (by decide))
    obtain ⟨u, h2, x2_w, a2, iu, ok2, ko2⟩ := c200 h1 1 12 p1_w ⟨by decide, by decide⟩ ⟨by decide, by decide⟩
    have u12 : 0 ≤ u ∧ u ≤ 12 := by
      by_cases z : h2 182 8 = 0
      · have := ok2 z
        omega
      · have := (ko2 z).1
        omega
    obtain ⟨q1_w, s1_w⟩ := gw_PK (p1_w.pa a2) (i := 95) (lo_w := 95) (hi_w := 96) (u := 12) (v := u) (by decide) (by decide) (by decide) u12.1 u12.2 (by decide +kernel) (by decide) (by decide) (by decide) (by decide) (fun k _ => by omega) (fun k _ => by omega)
    exact ⟨[v], h1, x1_w, fun _ => ⟨[u], h2, x2_w, ⟨by decide, by decide⟩, hd_w.pf q1_w (m1_w.tr (a2.pf.tr s1_w))⟩, fun _ => hd_w.pf p1_w m1_w⟩
  · obtain ⟨v, h1, x1_w, p1_w, e1_w, ok, -⟩ := c209 h 1 hp f0_w (wd (i1_w.mp k)) (by decide) (by decide)
    have m1_w : PF N NL h h1 := pf_nl e1_w (fun z => absurd z (by decide))
    refine ⟨[v], h1, x1_w, fun kv => ?_, fun _ => hd_w.pf p1_w m1_w⟩
    have fr : g_fit 100 112 (1, 0, 9999) = true := by decide +kernel
    obtain ⟨u, h2, x2_w, p2_w, e2_w, -⟩ := c211 h1 100 9999 p1_w (ok kv).2 ⟨by decide, by decide, by decide, by decide, fun i w j0 j1 w0_w w1_w => g_fit_ok fr (by omega) (by omega) ⟨w0_w, w1_w, by omega, by omega⟩, fun i j0 j1 => ⟨by omega, by omega, fun k => by omega, fun k => by omega⟩⟩
    exact ⟨[u], h2, x2_w, hd_w.pf p2_w (m1_w.tr (pf_nl e2_w (fun z => absurd z.1 (by decide))))⟩
  · obtain ⟨v, h1, x1_w, p1_w, e1_w, ok, -⟩ := c209 h 2 hp f0_w (wd (i8_w.mp k)) (by decide) (by decide)
    have m1_w : PF N NL h h1 := pf_nl e1_w (fun z => absurd z (by decide))
    refine ⟨[v], h1, x1_w, fun kv => ⟨⟨by decide, by decide⟩, ?_⟩, fun _ => hd_w.pf p1_w m1_w⟩
    have e12_w : h1 182 12 = h 182 12 := e1_w.1 182 12 (fun _ => by decide) (fun z => absurd z (by decide)) (fun z => absurd z (by decide))
    have at1_w := (ok kv).1
    have c0 := hp.2.1.2.2.2.2.2.1
    have t3_w := p1_w.2.1.2.2.1
    have t4_w := p1_w.2.1.2.2.2.1
    have hc_w := hd_w.2.1
    have hin : InI (h1 182 12) := ⟨by omega, by omega⟩
    have q1_w : QK P (r_T 0) (RJ P) (j_up h1 188 99 (h1 182 12)) := dw_QK p1_w.1 (ht_up p1_w.1.1 (by decide) hin) (Or.inl ⟨rfl, by decide⟩) (g_fit_ok (lo_w := 99) (hi_w := 100) (t := (1, 0, 1099)) (by decide +kernel) (by decide) (by decide) ⟨by omega, by omega, hin⟩)
    have u12 : j_up h1 188 99 (h1 182 12) 182 12 = h1 182 12 := up_ne (fun z => absurd z.1 (by decide))
    have u7 : j_up h1 188 99 (h1 182 12) 182 7 = h1 182 7 := up_ne (fun z => absurd z.1 (by decide))
    have s1_w : PF N (fun i => i = 99) h1 (j_up h1 188 99 (h1 182 12)) := ⟨fun o k e e2_w e3_w => up_ne (fun z => e2_w z.1 z.2), by rw [up_ne (fun z => absurd z.1 (by decide))]; exact p1_w.2.1.1, by rw [up_ne (fun z => absurd z.1 (by decide))]; exact ht_fld p1_w.1 rfl, fun _ => up_ne (fun z => absurd z.1 (by decide)), by rw [up_ne (fun z => absurd z.1 (by decide))]; exact Int.le_refl _, by rw [up_ne (fun z => absurd z.1 (by decide))]; exact t3_w⟩
    have p2_w : PK P N (j_up h1 188 99 (h1 182 12)) := ⟨q1_w, s1_w.pt p1_w.2.1, DG.up p1_w.1 p1_w.2.2 (up_ne (fun z => absurd z.2 (by decide))) (up_ne (fun z => absurd z.2 (by decide))) (fun k _ => up_ne (fun z => by have := z.2; omega)) (fun k _ => up_ne (fun z => by have := z.2; omega))⟩
    obtain ⟨h2, x2_w, q2_w, px, ex_w⟩ := c217 _ p2_w (by rw [u12, u7]; omega)
    have b6 := px.2.2.2.2.2.1
    have b7 := px.2.2.2.2.2.2.1
    have b8 := px.2.2.2.2.2.2.2
    rw [u12] at b7 b8
    rw [u7] at b8
    have k := c216 h2 0 0 (by omega) (by omega) (by decide) (by decide) (by decide) (by decide)
    rw [Int.mul_zero, Int.add_zero] at k
    exact ⟨[], h2, x2_w, [], emt h2 0, k, law_E hp hc_w p1_w e1_w at1_w px q2_w ex_w⟩
  · obtain ⟨h1, x1_w, a1_w, -⟩ := c191 h 1 hp (by decide) (by decide)
    exact ⟨[], h1, x1_w, hd_w.pf (hp.pa a1_w) a1_w.pf⟩
end PARE
end
section
/-! ===== the reference's parser: an empty_w draft ===== -/
def G199 (P : Int × Int) (g : Nat × Nat) (F : XP) : Prop := ∀ (h : XH), QK P (r_T 0) (RJ P) h → ∃ h', F 199 [182, 95] ((a_g3, g), h) = some (1, [], ((a_g3, g), h')) ∧ QK P (r_T 0) (RJ P) h' ∧ (∀ o k : Nat, (o = 188 → k < 95) → h' o k = h o k) ∧ (∀ k : Nat, 95 ≤ k → k < 190 → k ≠ 99 → h' 188 k = 0) ∧ h' 188 99 = -1
section PARF
variable {P : Int × Int} {N : Nat} {g : Nat × Nat} {xs : Nat → Int} {L K n : Nat} {ck : Nat → List Nat} {cW : Nat → Nat → Int} {h h' h1 h2 : XH} {F : XP}
def B199 (P : Int × Int) (h : XH) (r : List Int) (h' : XH) : Prop := r = [] ∧ QK P (r_T 0) (RJ P) h' ∧ (∀ o k : Nat, (o = 188 → k < 95) → h' o k = h o k) ∧ (∀ k : Nat, 95 ≤ k → k < 190 → k ≠ 99 → h' 188 k = 0) ∧ h' 188 99 = -1
theorem g_199 (hK_w : 4294967300 ≤ K) : G199 P g (evF xs L ck K cW g_M (n + 1)) := fun h hQ => by
  suffices hs : ∃ r h', evF xs L ck K cW g_M (n + 1) 199 [182, 95] ((a_g3, g), h) = some (1, r, ((a_g3, g), h')) ∧ B199 P h r h' by
    obtain ⟨r, h', e1_w, rfl, e2_w⟩ := hs
    exact ⟨h', e1_w, e2_w⟩
  refine tr_of gm_199 ?_
  show wS _ _ K bb_199 [182, 95, 0] h _
  generalize evF xs L ck K cW g_M n = F
  unfold bb_199
  simp only [wf_4, wf_40, wf_5, wf_50, wf_6, wl_1, wt_1, wu_1, wa_1, wl_4, wt_4, wu_4, wa_4, wl_5, wt_5, wu_5, wa_5, wl_6, wt_6, wu_6, wa_6, wl_9, wt_9, wu_9, wa_9, wl_10, wt_10, wu_10, wa_10, wl_11, wt_11, wu_11, wa_11, wl_13, wt_13, wu_13, wa_13, wl_14, wt_14, wu_14, wa_14, wl_15, wt_15, wu_15, wa_15, wl_16, wt_16, wu_16, wa_16, wl_17, wt_17, wu_17, wa_17, wl_20, wt_20, wu_20, wa_20, wl_21, wt_21, wu_21, wa_21, wl_22, wt_22, wu_22, wa_22, wl_23, wt_23, wu_23, wa_23, wl_24, wt_24, wu_24, wa_24, wl_26, wt_26, wu_26, wa_26, wl_27, wt_27, wu_27, wa_27, wl_28, wt_28, wu_28, wa_28, we_1, we_3, we_10, we_14, we_15, we_16, we_17, we_18, we_20, we_21, we_22, we_24, we_25, we_26, we_27, we_28, we_30, we_31, we_32, wc_20, wc_21, wc_22, wc_24, wc_25, wc_26, wc_27, wc_3, wc_4, wc_7, wc_28, wc_32, ws_1, ws_2, ws_3, ws_4, ws_9, ws_10, ws_11, ws_14, ws_15, ws_16, ws_27, ws_17, ws_20, ws_28, kc_0, kc_1, kn_1, kc_2, kn_2, kc_3, kc_4, kc_5, kc_6, kc_7, kc_8, kc_9, kc_10, kc_12, kc_13, kc_14, kc_16, kc_17, kc_18, kc_19, kc_20, kc_21, kc_22, kc_24, kc_28, kc_30, kc_32, kc_37, kc_40, kc_41, kc_42, kc_43, kc_45, kc_48, kc_56, kc_57, kc_59, kc_60, kc_61, kc_64, kc_73, kc_78, kc_91, kc_95, kc_96, kc_97, kc_98, kc_99, kc_100, kc_112, kc_122, kc_125, kc_126, kc_150, kc_162, kc_163, kc_168, kc_186, kc_190, kc_200, kc_250, kc_255, kc_355, kc_356, kc_404, kc_405, kc_429, kc_573, kc_999, kc_1000, kc_1002, kc_1100, kc_1891, kc_2200, kc_4719, kc_4869, kc_4881, kc_5148, kc_9999, kn_9999, kc_10000, kc_12345, kc_19741, kc_25433, kc_65536, kc_320403, kc_628412, kc_629093, kc_660401, kc_679843, kc_918640, kc_979410, kc_1178088, kc_6232410, kc_24644941, kc_36238189, kc_38270444, kc_392531318, kc_425693491, kc_1103515245, kc_1342154595, kc_2147483648, kc_42328242873, kc_891704255789, kc_1722105685577, kc_1858726030364, ct_0, ct_1, ct_2, ct_3, ct_4, ct_5, cf_0, cf_1, cf_2, cf_3, cf_4, cf_5, w_ty6, w_ty7, m_sv, m_z0, m_hd, m_g0, m_gs, m_s0, m_ss, m_ap, m_an, forall_const, true_and, and_true, ne_eq, not_true_eq_false, not_false_eq_true, false_implies, true_implies, implies_true, eq_self, reduceCtorEq, Nat.reduceDiv, Nat.reduceMod, Int.reduceToNat, or_true, true_or, or_false, false_or, or_self, m_it, m_if, m_c1, m_01, m_02, m_03, m_04, m_10, m_12, m_13, m_14, m_20, m_21, m_23, m_24, m_30, m_31, m_32, m_34, m_40, m_41, m_42, m_43]
  refine w_lp (fun en h' => ∃ k : Nat, en = [182, 95, (k : Int)] ∧ k ≤ 95 ∧ QK P (r_T 0) (RJ P) h' ∧ (∀ o k : Nat, (o = 188 → k < 95) → h' o k = h o k) ∧ ∀ i : Nat, 95 ≤ i → i < 95 + k → h' 188 i = 0) (fun en _ => 95 - (en.getD 2 0).toNat) ⟨0, rfl, by omega, hQ, fun _ _ _ => rfl, fun i i0 i1_w => by omega⟩ ?_
  rintro en h1 ⟨k, rfl, k0_w, q1_w, f1_w, z1⟩
  refine ⟨?_, ?_⟩
  · show 95 - ((k : Int)).toNat < K
    omega
  simp only [wf_4, wf_40, wf_5, wf_50, wf_6, wl_1, wt_1, wu_1, wa_1, wl_4, wt_4, wu_4, wa_4, wl_5, wt_5, wu_5, wa_5, wl_6, wt_6, wu_6, wa_6, wl_9, wt_9, wu_9, wa_9, wl_10, wt_10, wu_10, wa_10, wl_11, wt_11, wu_11, wa_11, wl_13, wt_13, wu_13, wa_13, wl_14, wt_14, wu_14, wa_14, wl_15, wt_15, wu_15, wa_15, wl_16, wt_16, wu_16, wa_16, wl_17, wt_17, wu_17, wa_17, wl_20, wt_20, wu_20, wa_20, wl_21, wt_21, wu_21, wa_21, wl_22, wt_22, wu_22, wa_22, wl_23, wt_23, wu_23, wa_23, wl_24, wt_24, wu_24, wa_24, wl_26, wt_26, wu_26, wa_26, wl_27, wt_27, wu_27, wa_27, wl_28, wt_28, wu_28, wa_28, we_1, we_3, we_10, we_14, we_15, we_16, we_17, we_18, we_20, we_21, we_22, we_24, we_25, we_26, we_27, we_28, we_30, we_31, we_32, wc_20, wc_21, wc_22, wc_24, wc_25, wc_26, wc_27, wc_3, wc_4, wc_7, wc_28, wc_32, ws_1, ws_2, ws_3, ws_4, ws_9, ws_10, ws_11, ws_14, ws_15, ws_16, ws_27, ws_17, ws_20, ws_28, kc_0, kc_1, kn_1, kc_2, kn_2, kc_3, kc_4, kc_5, kc_6, kc_7, kc_8, kc_9, kc_10, kc_12, kc_13, kc_14, kc_16, kc_17, kc_18, kc_19, kc_20, kc_21, kc_22, kc_24, kc_28, kc_30, kc_32, kc_37, kc_40, kc_41, kc_42, kc_43, kc_45, kc_48, kc_56, kc_57, kc_59, kc_60, kc_61, kc_64, kc_73, kc_78, kc_91, kc_95, kc_96, kc_97, kc_98, kc_99, kc_100, kc_112, kc_122, kc_125, kc_126, kc_150, kc_162, kc_163, kc_168, kc_186, kc_190, kc_200, kc_250, kc_255, kc_355, kc_356, kc_404, kc_405, kc_429, kc_573, kc_999, kc_1000, kc_1002, kc_1100, kc_1891, kc_2200, kc_4719, kc_4869, kc_4881, kc_5148, kc_9999, kn_9999, kc_10000, kc_12345, kc_19741, kc_25433, kc_65536, kc_320403, kc_628412, kc_629093, kc_660401, kc_679843, kc_918640, kc_979410, kc_1178088, kc_6232410, kc_24644941, kc_36238189, kc_38270444, kc_392531318, kc_425693491, kc_1103515245, kc_1342154595, kc_2147483648, kc_42328242873, kc_891704255789, kc_1722105685577, kc_1858726030364, ct_0, ct_1, ct_2, ct_3, ct_4, ct_5, cf_0, cf_1, cf_2, cf_3, cf_4, cf_5, w_ty6, w_ty7, m_sv, m_z0, m_hd, m_g0, m_gs, m_s0, m_ss, m_ap, m_an, forall_const, true_and, and_true, ne_eq, not_true_eq_false, not_false_eq_true, false_implies, true_implies, implies_true, eq_self, reduceCtorEq, Nat.reduceDiv, Nat.reduceMod, Int.reduceToNat, or_true, true_or, or_false, false_or, or_self, m_it, m_if, m_c1, m_01, m_02, m_03, m_04, m_10, m_12, m_13, m_14, m_20, m_21, m_23, m_24, m_30, m_31, m_32, m_34, m_40, m_41, m_42, m_43]
  refine ⟨fun hk => ?_, fun hk => ?_⟩
  · rw [jadd (x := 95) (y := (k : Int)) (by omega) (by omega), jinc (by omega) (by omega), show (95 + (k : Int)).toNat = 95 + k by omega]
    refine ⟨⟨by omega, by omega⟩, ⟨k + 1, rfl, by omega, dw_QK q1_w (ht_up q1_w.1 (by decide) in_0) (Or.inl ⟨rfl, by omega⟩) (g_fit_ok (lo_w := 95) (hi_w := 190) (t := (1, 0, 0)) (by decide +kernel) (by omega) (by omega) ⟨by decide, by decide, in_0⟩), fun o i e => ?_, fun i i0 i1_w => ?_⟩, ?_⟩
    · rw [up_ne (fun z => by have := e z.1; have := z.2; omega)]
      exact f1_w o i e
    · by_cases e : i = 95 + k
      · rw [e, up_eq]
      · rw [up_ne (fun z => e z.2)]
        exact z1 i i0 (by omega)
    · show 95 - ((k : Int) + 1).toNat < 95 - ((k : Int)).toNat
      omega
  · rw [jadd (x := 95) (y := 4) (by omega) (by omega), show ((95 : Int) + 4).toNat = 99 from rfl]
    have hin : InI (-1) := ⟨by decide, by decide⟩
    refine ⟨⟨by decide, by decide⟩, rfl, dw_QK q1_w (ht_up q1_w.1 (by decide) hin) (Or.inl ⟨rfl, by decide⟩) (g_fit_ok (lo_w := 99) (hi_w := 100) (t := (1, -1, -1)) (by decide +kernel) (by decide) (by decide) ⟨by decide, by decide, hin⟩), fun o i e => ?_, fun i i0 i1_w i2_w => ?_, up_eq⟩
    · rw [up_ne (fun z => by have := e z.1; have := z.2; omega)]
      exact f1_w o i e
    · rw [up_ne (fun z => i2_w z.2)]
      exact z1 i i0 (by omega)
end PARF
end
section
/-! ===== the reference's parser: a line of what is_w to be done ===== -/
def GV (f : Nat) (ps_w : List IT) (t : IT) (P : Int × Int) (g : Nat × Nat) (F : XP) : Prop := ∀ (h : XH) (av : List Int), QK P (r_T 0) (RJ P) h → IL P ps_w av → av.getD 0 0 = 182 → ∃ v, F f av ((a_g3, g), h) = some (1, [v], ((a_g3, g), h)) ∧ IV P t v
/-- at, fault and the four numbers_w of a line alone_w are written_w -/
def PL (N : Nat) (lo_w hi_w : Nat) (h h' : XH) : Prop := (∀ o k : Nat, (o = 182 → k ≠ 7 ∧ k ≠ 8) → (o = 191 → k < lo_w ∨ hi_w ≤ k) → h' o k = h o k) ∧ 0 ≤ h' 182 8 ∧ InI (h' 182 8) ∧ (h 182 8 ≠ 0 → h' 182 8 = h 182 8) ∧ h 182 7 ≤ h' 182 7 ∧ h' 182 7 ≤ (N : Int)
def G215 (P : Int × Int) (N : Nat) (g : Nat × Nat) (F : XP) : Prop := ∀ (h : XH) (a : Nat) (b : Int), PK P N h → 125 ≤ a → a ≤ 246 → 0 ≤ b → b ≤ 3 → ∃ h', F 215 [182, (a : Int), b] ((a_g3, g), h) = some (1, [], ((a_g3, g), h')) ∧ PK P N h' ∧ PL N a (a + 4) h h' ∧ (h' 182 8 = 0 → LineOK P (h' 191 a) (h' 191 (a + 1)) (h' 191 (a + 2)) (h' 191 (a + 3)))
section PARG
variable {P : Int × Int} {N : Nat} {g : Nat × Nat} {xs : Nat → Int} {L K n : Nat} {ck : Nat → List Nat} {cW : Nat → Nat → Int} {h h' h1 h2 : XH} {F : XP}
theorem gv_of {f : Nat} {ps_w : List IT} {t : IT} (hK2 : 20000000000 ≤ K) (hd_w : r_dp f < n) (hn : n < 99999) (hP : qP (r_T 0) f = ps_w) (hR : qR (r_T 0) f = [t]) (hC : m_in f = true) (hW : m_W f = ([], [])) : GV f ps_w t P g (evF xs L ck K cW g_M n) := fun h av hQ hv h0 => by
  obtain ⟨v, h2, e1_w, e2_w, e3_w, e4_w⟩ := use1 (r_ref hK2 hd_w hn) hP hR hQ hv
  have k := (fr_all n f av (a_g3, g) h 1 [v] (a_g3, g) h2 hC rfl (Or.inr h0) e1_w).2
  rw [hW] at k
  rw [Fr.pure k] at e1_w
  exact ⟨v, e1_w, e4_w⟩
theorem PA.pl {lo_w hi_w : Nat} (a : PA N h h') : PL N lo_w hi_w h h' := ⟨fun o k e _ => a.1 o k e, a.2⟩
theorem PL.tr {lo_w hi_w : Nat} (a : PL N lo_w hi_w h h') (b : PL N lo_w hi_w h' h2) : PL N lo_w hi_w h h2 := by
  obtain ⟨a1_w, a2, a3, a4, a5, a6⟩ := a
  obtain ⟨b1, b2, b3, b4, b5, b6⟩ := b
  exact ⟨fun o k e e2_w => (b1 o k e e2_w).trans (a1_w o k e e2_w), b2, b3, fun e => by rw [b4 (by rw [a4 e]; exact e), a4 e], by omega, b6⟩
/-- a cell_w of the drafted lines is_w written_w -/
theorem lw_PK (hp : PK P N h) {lo_w hi_w i : Nat} {v : Int} (h0 : 125 ≤ i) (h1 : lo_w ≤ i) (h2 : i < hi_w) (hv : InI v) : PK P N (j_up h 191 i v) ∧ PL N lo_w hi_w h (j_up h 191 i v) := by
  have q : QK P (r_T 0) (RJ P) (j_up h 191 i v) := dw_QK hp.1 (ht_up hp.1.1 (by decide) hv) (Or.inr (Or.inr (Or.inr ⟨rfl, h0⟩))) (fun r hr k1_w k2 => by
    have hr2 : r ∈ [(0, 1, ((1, 0, 30) : IT)), (1, 250, (1, (-2147483648), 2147483647))] := hr
    rcases List.mem_cons.mp hr2 with rfl | hr3
    · have : i < 1 := k2
      omega
    · rw [List.mem_singleton] at hr3
      subst hr3
      exact IV.top hv)
  have e8 : j_up h 191 i v 182 8 = h 182 8 := up_ne (fun z => absurd z.1 (by decide))
  have e7_w : j_up h 191 i v 182 7 = h 182 7 := up_ne (fun z => absurd z.1 (by decide))
  have e : PL N lo_w hi_w h (j_up h 191 i v) := ⟨fun o k e e2_w => up_ne (fun z => by have := e2_w z.1; have := z.2; omega), by rw [e8]; exact hp.2.1.1, by rw [e8]; exact ht_fld hp.1 rfl, fun _ => e8, by rw [e7_w]; exact Int.le_refl _, by rw [e7_w]; exact hp.2.1.2.2.1⟩
  obtain ⟨_, ⟨p1_w, p2_w, p3_w, p4_w, p5_w, p6_w, p7_w, p8_w⟩, d⟩ := hp
  have o : ∀ q : Nat, q ≠ 191 → ∀ k, j_up h 191 i v q k = h q k := fun q hq k => up_ne (fun z => hq z.1)
  refine ⟨⟨q, ⟨by rw [e8]; exact p1_w, by rw [e7_w]; exact p2_w, by rw [e7_w]; exact p3_w, p4_w, by rw [o 184 (by decide)]; exact p5_w, by rw [o 182 (by decide)]; exact p6_w, by rw [e7_w, o 182 (by decide)]; exact p7_w, fun j hj hs => ?_⟩, ?_⟩, e⟩
  · rw [o 184 (by decide)] at hs
    rw [o 186 (by decide)]
    exact p8_w j hj hs
  · unfold DG
    have e188 : j_up h 191 i v 188 = h 188 := funext fun k => o 188 (by decide) k
    rw [e188]
    exact d
def B215 (P : Int × Int) (N a : Nat) (h : XH) (r : List Int) (h' : XH) : Prop := r = [] ∧ PK P N h' ∧ PL N a (a + 4) h h' ∧ (h' 182 8 = 0 → LineOK P (h' 191 a) (h' 191 (a + 1)) (h' 191 (a + 2)) (h' 191 (a + 3)))
theorem g_215 (c200 : G200 P N g (evF xs L ck K cW g_M n)) (c205 : G205 P N g (evF xs L ck K cW g_M n)) (c225 : GV 225 [(4, 182, 182)] (1, 0, 12) P g (evF xs L ck K cW g_M n)) (c227 : GV 227 [(4, 182, 182)] (1, 0, 4) P g (evF xs L ck K cW g_M n)) (c228 : GV 228 [(4, 182, 182)] (7, 0, 0) P g (evF xs L ck K cW g_M n)) (c233 : GV 233 [(4, 182, 182), (5, 0, 0)] (1, (-1), 12) P g (evF xs L ck K cW g_M n)) (c234 : GV 234 [(4, 182, 182), (5, 0, 0)] (1, 0, 9999) P g (evF xs L ck K cW g_M n)) : G215 P N g (evF xs L ck K cW g_M (n + 1)) := fun h a b hp a0_w a1_w b0 b3 => by
  suffices hs : ∃ r h', evF xs L ck K cW g_M (n + 1) 215 [182, (a : Int), b] ((a_g3, g), h) = some (1, r, ((a_g3, g), h')) ∧ B215 P N a h r h' by
    obtain ⟨r, h', e1_w, rfl, e2_w⟩ := hs
    exact ⟨h', e1_w, e2_w⟩
  refine tr_of gm_215 ?_
  show wS _ _ K bb_215 [182, (a : Int), b, 0] h _
  generalize evF xs L ck K cW g_M n = F at c200 c205 c225 c227 c228 c233 c234 ⊢
  unfold bb_215
  simp only [wf_4, wf_40, wf_5, wf_50, wf_6, wl_1, wt_1, wu_1, wa_1, wl_4, wt_4, wu_4, wa_4, wl_5, wt_5, wu_5, wa_5, wl_6, wt_6, wu_6, wa_6, wl_9, wt_9, wu_9, wa_9, wl_10, wt_10, wu_10, wa_10, wl_11, wt_11, wu_11, wa_11, wl_13, wt_13, wu_13, wa_13, wl_14, wt_14, wu_14, wa_14, wl_15, wt_15, wu_15, wa_15, wl_16, wt_16, wu_16, wa_16, wl_17, wt_17, wu_17, wa_17, wl_20, wt_20, wu_20, wa_20, wl_21, wt_21, wu_21, wa_21, wl_22, wt_22, wu_22, wa_22, wl_23, wt_23, wu_23, wa_23, wl_24, wt_24, wu_24, wa_24, wl_26, wt_26, wu_26, wa_26, wl_27, wt_27, wu_27, wa_27, wl_28, wt_28, wu_28, wa_28, we_1, we_3, we_10, we_14, we_15, we_16, we_17, we_18, we_20, we_21, we_22, we_24, we_25, we_26, we_27, we_28, we_30, we_31, we_32, wc_20, wc_21, wc_22, wc_24, wc_25, wc_26, wc_27, wc_3, wc_4, wc_7, wc_28, wc_32, ws_1, ws_2, ws_3, ws_4, ws_9, ws_10, ws_11, ws_14, ws_15, ws_16, ws_27, ws_17, ws_20, ws_28, kc_0, kc_1, kn_1, kc_2, kn_2, kc_3, kc_4, kc_5, kc_6, kc_7, kc_8, kc_9, kc_10, kc_12, kc_13, kc_14, kc_16, kc_17, kc_18, kc_19, kc_20, kc_21, kc_22, kc_24, kc_28, kc_30, kc_32, kc_37, kc_40, kc_41, kc_42, kc_43, kc_45, kc_48, kc_56, kc_57, kc_59, kc_60, kc_61, kc_64, kc_73, kc_78, kc_91, kc_95, kc_96, kc_97, kc_98, kc_99, kc_100, kc_112, kc_122, kc_125, kc_126, kc_150, kc_162, kc_163, kc_168, kc_186, kc_190, kc_200, kc_250, kc_255, kc_355, kc_356, kc_404, kc_405, kc_429, kc_573, kc_999, kc_1000, kc_1002, kc_1100, kc_1891, kc_2200, kc_4719, kc_4869, kc_4881, kc_5148, kc_9999, kn_9999, kc_10000, kc_12345, kc_19741, kc_25433, kc_65536, kc_320403, kc_628412, kc_629093, kc_660401, kc_679843, kc_918640, kc_979410, kc_1178088, kc_6232410, kc_24644941, kc_36238189, kc_38270444, kc_392531318, kc_425693491, kc_1103515245, kc_1342154595, kc_2147483648, kc_42328242873, kc_891704255789, kc_1722105685577, kc_1858726030364, ct_0, ct_1, ct_2, ct_3, ct_4, ct_5, cf_0, cf_1, cf_2, cf_3, cf_4, cf_5, w_ty6, w_ty7, m_sv, m_z0, m_hd, m_g0, m_gs, m_s0, m_ss, m_ap, m_an, forall_const, true_and, and_true, ne_eq, not_true_eq_false, not_false_eq_true, false_implies, true_implies, implies_true, eq_self, reduceCtorEq, Nat.reduceDiv, Nat.reduceMod, Int.reduceToNat, or_true, true_or, or_false, false_or, or_self, m_it, m_if, m_c1, m_01, m_02, m_03, m_04, m_10, m_12, m_13, m_14, m_20, m_21, m_23, m_24, m_30, m_31, m_32, m_34, m_40, m_41, m_42, m_43]
  have j1 : j_iop 0 (a : Int) 1 = ((a + 1 : Nat) : Int) := by
    rw [jadd (by omega) (by omega)]
    omega
  have j2_w : j_iop 0 (a : Int) 2 = ((a + 2 : Nat) : Int) := by
    rw [jadd (by omega) (by omega)]
    omega
  have j3_w : j_iop 0 (a : Int) 3 = ((a + 3 : Nat) : Int) := by
    rw [jadd (by omega) (by omega)]
    omega
  simp only [j1, j2_w, j3_w, Int.toNat_natCast]
  have bd : (0 ≤ (a : Int) ∧ (a : Int) < 250) ∧ (0 ≤ ((a + 1 : Nat) : Int) ∧ ((a + 1 : Nat) : Int) < 250) ∧ (0 ≤ ((a + 2 : Nat) : Int) ∧ ((a + 2 : Nat) : Int) < 250) ∧ (0 ≤ ((a + 3 : Nat) : Int) ∧ ((a + 3 : Nat) : Int) < 250) := by omega
  obtain ⟨bd0, bd1, bd2, bd3⟩ := bd
  have inb_w : InI b := ⟨by omega, by omega⟩
  obtain ⟨p1_w, l1⟩ := lw_PK hp (lo_w := a) (hi_w := a + 4) (i := a) (v := b) (by omega) (by omega) (by omega) inb_w
  obtain ⟨p2_w, l2⟩ := lw_PK p1_w (lo_w := a) (hi_w := a + 4) (i := a + 1) (v := 0) (by omega) (by omega) (by omega) in_0
  obtain ⟨p3_w, l3⟩ := lw_PK p2_w (lo_w := a) (hi_w := a + 4) (i := a + 2) (v := 0) (by omega) (by omega) (by omega) in_0
  obtain ⟨p4_w, l4⟩ := lw_PK p3_w (lo_w := a) (hi_w := a + 4) (i := a + 3) (v := 0) (by omega) (by omega) (by omega) in_0
  have l0 := l1.tr (l2.tr (l3.tr l4))
  have cb : j_up (j_up (j_up (j_up h 191 a b) 191 (a + 1) 0) 191 (a + 2) 0) 191 (a + 3) 0 191 a = b := by
    rw [up_ne (fun z => by have := z.2; omega), up_ne (fun z => by have := z.2; omega), up_ne (fun z => by have := z.2; omega), up_eq]
  generalize j_up (j_up (j_up (j_up h 191 a b) 191 (a + 1) 0) 191 (a + 2) 0) 191 (a + 3) 0 = H at p4_w l0 cb ⊢
  refine ⟨bd0, bd1, bd2, bd3, fun hb_w => ?_, fun hb_w => ⟨fun hb1 => ?_, fun hb1 => ⟨fun hb2 => ?_, fun hb2 => ⟨rfl, p4_w, l0, fun _ => ?_⟩⟩⟩⟩
  · obtain ⟨v, x1_w, iv0, iv1, iv2⟩ := c228 H [182] p4_w.1 ⟨rfl, trivial⟩ rfl
    obtain ⟨u, h2, x2_w, a2, iu, ok2, -⟩ := c205 H 8 v p4_w (by decide) iv1 (by omega)
    obtain ⟨q1_w, m1_w⟩ := lw_PK (p4_w.pa a2) (lo_w := a) (hi_w := a + 4) (i := a + 1) (v := u) (by omega) (by omega) (by omega) iu
    have t1_w := l0.tr (a2.pl.tr m1_w)
    have c1_w : j_up h2 191 (a + 1) u 191 a = b := by rw [up_ne (fun z => by have := z.2; omega), a2.ob (by decide), cb]
    have c2 : j_up h2 191 (a + 1) u 191 (a + 1) = u := up_eq
    have e8 : j_up h2 191 (a + 1) u 182 8 = h2 182 8 := up_ne (fun z => absurd z.1 (by decide))
    refine ⟨[v], H, x1_w, [u], h2, x2_w, bd1, ?_⟩
    rw [show j_hd [u] = u from rfl]
    generalize j_up h2 191 (a + 1) u = H1_w at q1_w m1_w t1_w c1_w c2 e8 ⊢
    refine ⟨fun z => ⟨bd2, ?_⟩, fun z => ?_⟩
    · have ez : j_up H1_w 191 (a + 2) 0 182 8 = H1_w 182 8 := up_ne (fun z => absurd z.1 (by decide))
      obtain ⟨q2_w, m2_w⟩ := lw_PK q1_w (lo_w := a) (hi_w := a + 4) (i := a + 2) (v := 0) (by omega) (by omega) (by omega) in_0
      obtain ⟨q3_w, m3_w⟩ := lw_PK q2_w (lo_w := a) (hi_w := a + 4) (i := a + 3) (v := 0) (by omega) (by omega) (by omega) in_0
      refine ⟨fun _ => ⟨bd3, rfl, q3_w, t1_w.tr (m2_w.tr m3_w), fun y => ?_⟩, fun y => by omega⟩
      rw [up_ne (fun z => absurd z.1 (by decide)), ez] at y
      omega
    · have z1 : h2 182 8 = 0 := by
        have := q1_w.2.1.1
        omega
      obtain ⟨u0, u1, -⟩ := ok2 z1
      have mP := q_nM p4_w.1
      obtain ⟨w, y1, iw0, iw1, iw2⟩ := c233 H1_w [182, u] q1_w.1 ⟨rfl, ⟨u0, by omega, by omega⟩, trivial⟩ rfl
      obtain ⟨t, h3, x3, a3, it, ok3, -⟩ := c200 H1_w 0 w q1_w in_0 iw2
      obtain ⟨q2_w, m2_w⟩ := lw_PK (q1_w.pa a3) (lo_w := a) (hi_w := a + 4) (i := a + 2) (v := t) (by omega) (by omega) (by omega) it
      have t2_w := t1_w.tr (a3.pl.tr m2_w)
      have d1_w : j_up h3 191 (a + 2) t 191 a = b := by rw [up_ne (fun z => by have := z.2; omega), a3.ob (by decide), c1_w]
      have d2_w : j_up h3 191 (a + 2) t 191 (a + 1) = u := by rw [up_ne (fun z => by have := z.2; omega), a3.ob (by decide), c2]
      have d3_w : j_up h3 191 (a + 2) t 191 (a + 2) = t := up_eq
      have f8_w : j_up h3 191 (a + 2) t 182 8 = h3 182 8 := up_ne (fun z => absurd z.1 (by decide))
      refine ⟨[w], H1_w, y1, [t], h3, x3, bd2, ?_⟩
      rw [show j_hd [t] = t from rfl]
      generalize j_up h3 191 (a + 2) t = H2_w at q2_w m2_w t2_w d1_w d2_w d3_w f8_w ⊢
      refine ⟨fun z => ⟨bd3, ?_⟩, fun z => ?_⟩
      · obtain ⟨q3_w, m3_w⟩ := lw_PK q2_w (lo_w := a) (hi_w := a + 4) (i := a + 3) (v := 0) (by omega) (by omega) (by omega) in_0
        refine ⟨rfl, q3_w, t2_w.tr m3_w, fun y => ?_⟩
        rw [up_ne (fun z => absurd z.1 (by decide))] at y
        omega
      · have z2 : h3 182 8 = 0 := by
          have := q2_w.2.1.1
          omega
        obtain ⟨t0_w, tw, -⟩ := ok3 z2
        obtain ⟨s, y2, is0, is1, is2⟩ := c234 H2_w [182, u] q2_w.1 ⟨rfl, ⟨u0, by omega, by omega⟩, trivial⟩ rfl
        obtain ⟨o, h4, x4_w, a4, io, ok4, -⟩ := c200 H2_w 0 s q2_w in_0 is2
        obtain ⟨q3_w, m3_w⟩ := lw_PK (q2_w.pa a4) (lo_w := a) (hi_w := a + 4) (i := a + 3) (v := o) (by omega) (by omega) (by omega) io
        refine ⟨[s], H2_w, y2, [o], h4, x4_w, bd3, rfl, q3_w, t2_w.tr (a4.pl.tr m3_w), fun y => ?_⟩
        rw [show j_hd [o] = o from rfl] at y ⊢
        rw [up_ne (fun z => absurd z.1 (by decide))] at y
        obtain ⟨o0_w, o1, -⟩ := ok4 y
        rw [up_ne (fun z => by have := z.2; omega), up_ne (fun z => by have := z.2; omega), up_ne (fun z => by have := z.2; omega), up_eq, a4.ob (by decide), d1_w, d2_w, d3_w]
        exact ⟨fun _ => ⟨u0, by omega, t0_w, by omega, o0_w, by omega⟩, fun z => by omega, fun z => by omega⟩
  · obtain ⟨v, x1_w, iv0, iv1, iv2⟩ := c228 H [182] p4_w.1 ⟨rfl, trivial⟩ rfl
    obtain ⟨u, h2, x2_w, a2, iu, ok2, -⟩ := c205 H 8 v p4_w (by decide) iv1 (by omega)
    obtain ⟨q1_w, m1_w⟩ := lw_PK (p4_w.pa a2) (lo_w := a) (hi_w := a + 4) (i := a + 1) (v := u) (by omega) (by omega) (by omega) iu
    have t1_w := l0.tr (a2.pl.tr m1_w)
    have c1_w : j_up h2 191 (a + 1) u 191 a = b := by rw [up_ne (fun z => by have := z.2; omega), a2.ob (by decide), cb]
    have c2 : j_up h2 191 (a + 1) u 191 (a + 1) = u := up_eq
    have e8 : j_up h2 191 (a + 1) u 182 8 = h2 182 8 := up_ne (fun z => absurd z.1 (by decide))
    refine ⟨[v], H, x1_w, [u], h2, x2_w, bd1, ?_⟩
    rw [show j_hd [u] = u from rfl]
    generalize j_up h2 191 (a + 1) u = H1_w at q1_w m1_w t1_w c1_w c2 e8 ⊢
    obtain ⟨w, y1, iw0, iw1, iw2⟩ := c227 H1_w [182] q1_w.1 ⟨rfl, trivial⟩ rfl
    obtain ⟨t, h3, x3, a3, it, ok3, -⟩ := c205 H1_w 4 w q1_w (by decide) iw0 (by omega)
    obtain ⟨q2_w, m2_w⟩ := lw_PK (q1_w.pa a3) (lo_w := a) (hi_w := a + 4) (i := a + 2) (v := t) (by omega) (by omega) (by omega) it
    have t2_w := t1_w.tr (a3.pl.tr m2_w)
    have d1_w : j_up h3 191 (a + 2) t 191 a = b := by rw [up_ne (fun z => by have := z.2; omega), a3.ob (by decide), c1_w]
    have d2_w : j_up h3 191 (a + 2) t 191 (a + 1) = u := by rw [up_ne (fun z => by have := z.2; omega), a3.ob (by decide), c2]
    have d3_w : j_up h3 191 (a + 2) t 191 (a + 2) = t := up_eq
    have f8_w : j_up h3 191 (a + 2) t 182 8 = h3 182 8 := up_ne (fun z => absurd z.1 (by decide))
    refine ⟨[w], H1_w, y1, [t], h3, x3, bd2, ?_⟩
    rw [show j_hd [t] = t from rfl]
    generalize j_up h3 191 (a + 2) t = H2_w at q2_w m2_w t2_w d1_w d2_w d3_w f8_w ⊢
    obtain ⟨s, y2, is0, is1, is2⟩ := c225 H2_w [182] q2_w.1 ⟨rfl, trivial⟩ rfl
    have js : j_iop 1 s 1 = s - 1 := jsub (by omega) (by omega)
    obtain ⟨o, h4, x4_w, a4, io, ok4, -⟩ := c200 H2_w 0 (s - 1) q2_w in_0 ⟨by omega, by omega⟩
    obtain ⟨q3_w, m3_w⟩ := lw_PK (q2_w.pa a4) (lo_w := a) (hi_w := a + 4) (i := a + 3) (v := o) (by omega) (by omega) (by omega) io
    refine ⟨[s], H2_w, y2, [o], h4, by rw [show j_hd [s] = s from rfl, js]; exact x4_w, bd3, rfl, q3_w, t2_w.tr (a4.pl.tr m3_w), fun y => ?_⟩
    rw [show j_hd [o] = o from rfl] at y ⊢
    rw [up_ne (fun z => absurd z.1 (by decide))] at y
    have y3 := pa_0 a4 y
    rw [f8_w] at y3
    have y4 := pa_0 a3 y3
    rw [e8] at y4
    obtain ⟨o0_w, o1, -⟩ := ok4 y
    obtain ⟨t0_w, tw, -⟩ := ok3 y3
    obtain ⟨u0, u1, -⟩ := ok2 y4
    have mP := q_nM p4_w.1
    rw [up_ne (fun z => by have := z.2; omega), up_ne (fun z => by have := z.2; omega), up_ne (fun z => by have := z.2; omega), up_eq, a4.ob (by decide), d1_w, d2_w, d3_w]
    exact ⟨fun z => by omega, fun _ => ⟨u0, by omega, t0_w, by omega, o0_w, by omega⟩, fun z => by omega⟩
  · obtain ⟨v, x1_w, iv0, iv1, iv2⟩ := c225 H [182] p4_w.1 ⟨rfl, trivial⟩ rfl
    have js : j_iop 1 v 1 = v - 1 := jsub (by omega) (by omega)
    obtain ⟨u, h2, x2_w, a2, iu, ok2, -⟩ := c200 H 0 (v - 1) p4_w in_0 ⟨by omega, by omega⟩
    obtain ⟨q1_w, m1_w⟩ := lw_PK (p4_w.pa a2) (lo_w := a) (hi_w := a + 4) (i := a + 1) (v := u) (by omega) (by omega) (by omega) iu
    have t1_w := l0.tr (a2.pl.tr m1_w)
    have c1_w : j_up h2 191 (a + 1) u 191 a = b := by rw [up_ne (fun z => by have := z.2; omega), a2.ob (by decide), cb]
    have c2 : j_up h2 191 (a + 1) u 191 (a + 1) = u := up_eq
    have e8 : j_up h2 191 (a + 1) u 182 8 = h2 182 8 := up_ne (fun z => absurd z.1 (by decide))
    refine ⟨[v], H, x1_w, [u], h2, by rw [show j_hd [v] = v from rfl, js]; exact x2_w, bd1, ?_⟩
    rw [show j_hd [u] = u from rfl]
    generalize j_up h2 191 (a + 1) u = H1_w at q1_w m1_w t1_w c1_w c2 e8 ⊢
    obtain ⟨o, h4, x4_w, a4, io, ok4, -⟩ := c200 H1_w 0 9999 q1_w in_0 ⟨by decide, by decide⟩
    obtain ⟨q3_w, m3_w⟩ := lw_PK (q1_w.pa a4) (lo_w := a) (hi_w := a + 4) (i := a + 2) (v := o) (by omega) (by omega) (by omega) io
    refine ⟨[o], h4, x4_w, bd2, rfl, q3_w, t1_w.tr (a4.pl.tr m3_w), fun y => ?_⟩
    rw [show j_hd [o] = o from rfl] at y ⊢
    rw [up_ne (fun z => absurd z.1 (by decide))] at y
    have y3 := pa_0 a4 y
    rw [e8] at y3
    obtain ⟨o0_w, o1, -⟩ := ok4 y
    obtain ⟨u0, u1, -⟩ := ok2 y3
    rw [up_ne (fun z => by have := z.2; omega), up_ne (fun z => by have := z.2; omega), up_eq, a4.ob (by decide), c1_w, c2]
    exact ⟨fun z => by omega, fun z => by omega, fun _ => ⟨u0, by omega, o0_w, by omega⟩⟩
  · rw [cb]
    exact ⟨fun z => absurd z hb_w, fun z => absurd z hb1, fun z => absurd z hb2⟩
end PARG
end
section
/-! ===== the reference's parser: what is_w to be done ===== -/
def G190 (P : Int × Int) (g : Nat × Nat) (F : XP) : Prop := ∀ (h : XH), QK P (r_T 0) (RJ P) h → DG h → 0 ≤ h 182 12 → h 182 12 ≤ 1001 → ∃ N h', F 190 [182] ((a_g3, g), h) = some (1, [], ((a_g3, g), h')) ∧ PK P N h' ∧ h' 182 7 = 0 ∧ ∀ o k : Nat, (o = 182 → k ≠ 2 ∧ k ≠ 3 ∧ k ≠ 7 ∧ k ≠ 8) → (o ≠ 184 ∧ o ≠ 185 ∧ o ≠ 186) → h' o k = h o k
/-- what lasts from call to call, beside the class's side_w -/
def LQ (h : XH) : Prop := ∃ P, QK P (r_T 0) (RJ P) h ∧ DG h ∧ 0 ≤ h 182 12 ∧ h 182 12 ≤ 1001
def B214 (P : Int × Int) (r : List Int) (h' : XH) : Prop := ∃ v, r = [v] ∧ InI v ∧ QK P (r_T 0) (RJ P) h' ∧ DG h' ∧ 0 ≤ h' 182 12 ∧ h' 182 12 ≤ 1001
section PARH
variable {P : Int × Int} {N : Nat} {g : Nat × Nat} {xs : Nat → Int} {L K n : Nat} {ck : Nat → List Nat} {cW : Nat → Nat → Int} {h h' h1 h2 : XH} {F : XP}
/-- the lines that are drafted -/
def DW (P : Int × Int) (m : Nat) (h : XH) : Prop := h 182 8 = 0 → ∀ i : Nat, i < m → LineOK P (h 191 (125 + 4 * i)) (h 191 (126 + 4 * i)) (h 191 (127 + 4 * i)) (h 191 (128 + 4 * i))
theorem DW.pa {m : Nat} (d : DW P m h) (a : PA N h h') : DW P m h' := fun z i hi_w => by
  rw [a.ob (by decide)]
  exact d (pa_0 a z) i hi_w
theorem cp_214 {m : Nat} {R : Nat → List Int → List Int → XH → Prop} (hK_w : 4294967300 ≤ K) (hp : PK P N h) (m30 : m ≤ 30) (hw : ∀ i : Nat, i < m → LineOK P (h 191 (125 + 4 * i)) (h 191 (126 + 4 * i)) (h 191 (127 + 4 * i)) (h 191 (128 + 4 * i))) (c0 : 0 ≤ h 182 12) (c1_w : h 182 12 ≤ 1001) (hR : ∀ en h', QK P (r_T 0) (RJ P) h' → DG h' → h' 182 12 = h 182 12 → R 0 [] en h') : wS (a_g3, g) F K (sx 12 (sx 20 (sx 3 (sv 2) z0 z0) (sx 14 (sx 1 (sv 4) (sv 1) z0) (sx 3 (sv 1) z0 z0) (sv 2)) (sv 2)) (sx 20 (sx 7 (sx 5 (sx 3 z0 z0 z0) (sv 14) z0) (sx 14 (sx 1 (sv 1) (sv 1) z0) (sx 3 (sv 2) z0 z0) z0) (so 6 (sx 7 (sx 5 (sx 3 z0 z0 z0) (sv 14) z0) (sx 14 (sx 1 (sv 125) (sv 1) z0) (sx 3 (sv 2) z0 z0) z0) z0))) z0 z0) (sx 4 (sv 2) (sv 1) z0)) [182, (m : Int), 0] (j_up h 191 0 (m : Int)) R := by
  refine w_lp (fun en h' => ∃ k : Nat, en = [182, (m : Int), (k : Int)] ∧ k ≤ 4 * m ∧ HT g_fk a_g3 h' ∧ (∀ o i : Nat, (o = 191 → 125 ≤ i) → h' o i = h o i) ∧ h' 191 0 = (m : Int) ∧ ∀ i : Nat, i < k → h' 191 (1 + i) = h 191 (125 + i)) (fun en _ => 4 * m - (en.getD 2 0).toNat) ⟨0, rfl, by omega, ht_up hp.1.1 (by decide) ⟨by omega, by omega⟩, fun o i e => up_ne (fun z => by have := e z.1; have := z.2; omega), up_eq, fun i hi_w => by omega⟩ ?_
  rintro en h1 ⟨k, rfl, k4, H1_w, f1_w, z1, d1_w⟩
  refine ⟨?_, ?_⟩
  · show 4 * m - ((k : Int)).toNat < K
    omega
  simp only [wf_4, wf_40, wf_5, wf_50, wf_6, wl_1, wt_1, wu_1, wa_1, wl_4, wt_4, wu_4, wa_4, wl_5, wt_5, wu_5, wa_5, wl_6, wt_6, wu_6, wa_6, wl_9, wt_9, wu_9, wa_9, wl_10, wt_10, wu_10, wa_10, wl_11, wt_11, wu_11, wa_11, wl_13, wt_13, wu_13, wa_13, wl_14, wt_14, wu_14, wa_14, wl_15, wt_15, wu_15, wa_15, wl_16, wt_16, wu_16, wa_16, wl_17, wt_17, wu_17, wa_17, wl_20, wt_20, wu_20, wa_20, wl_21, wt_21, wu_21, wa_21, wl_22, wt_22, wu_22, wa_22, wl_23, wt_23, wu_23, wa_23, wl_24, wt_24, wu_24, wa_24, wl_26, wt_26, wu_26, wa_26, wl_27, wt_27, wu_27, wa_27, wl_28, wt_28, wu_28, wa_28, we_1, we_3, we_10, we_14, we_15, we_16, we_17, we_18, we_20, we_21, we_22, we_24, we_25, we_26, we_27, we_28, we_30, we_31, we_32, wc_20, wc_21, wc_22, wc_24, wc_25, wc_26, wc_27, wc_3, wc_4, wc_7, wc_28, wc_32, ws_1, ws_2, ws_3, ws_4, ws_9, ws_10, ws_11, ws_14, ws_15, ws_16, ws_27, ws_17, ws_20, ws_28, kc_0, kc_1, kn_1, kc_2, kn_2, kc_3, kc_4, kc_5, kc_6, kc_7, kc_8, kc_9, kc_10, kc_12, kc_13, kc_14, kc_16, kc_17, kc_18, kc_19, kc_20, kc_21, kc_22, kc_24, kc_28, kc_30, kc_32, kc_37, kc_40, kc_41, kc_42, kc_43, kc_45, kc_48, kc_56, kc_57, kc_59, kc_60, kc_61, kc_64, kc_73, kc_78, kc_91, kc_95, kc_96, kc_97, kc_98, kc_99, kc_100, kc_112, kc_122, kc_125, kc_126, kc_150, kc_162, kc_163, kc_168, kc_186, kc_190, kc_200, kc_250, kc_255, kc_355, kc_356, kc_404, kc_405, kc_429, kc_573, kc_999, kc_1000, kc_1002, kc_1100, kc_1891, kc_2200, kc_4719, kc_4869, kc_4881, kc_5148, kc_9999, kn_9999, kc_10000, kc_12345, kc_19741, kc_25433, kc_65536, kc_320403, kc_628412, kc_629093, kc_660401, kc_679843, kc_918640, kc_979410, kc_1178088, kc_6232410, kc_24644941, kc_36238189, kc_38270444, kc_392531318, kc_425693491, kc_1103515245, kc_1342154595, kc_2147483648, kc_42328242873, kc_891704255789, kc_1722105685577, kc_1858726030364, ct_0, ct_1, ct_2, ct_3, ct_4, ct_5, cf_0, cf_1, cf_2, cf_3, cf_4, cf_5, w_ty6, w_ty7, m_sv, m_z0, m_hd, m_g0, m_gs, m_s0, m_ss, m_ap, m_an, forall_const, true_and, and_true, ne_eq, not_true_eq_false, not_false_eq_true, false_implies, true_implies, implies_true, eq_self, reduceCtorEq, Nat.reduceDiv, Nat.reduceMod, Int.reduceToNat, or_true, true_or, or_false, false_or, or_self, m_it, m_if, m_c1, m_01, m_02, m_03, m_04, m_10, m_12, m_13, m_14, m_20, m_21, m_23, m_24, m_30, m_31, m_32, m_34, m_40, m_41, m_42, m_43]
  rw [jmul (x := 4) (y := (m : Int)) (by omega) (by omega)]
  refine ⟨fun hk => ?_, fun hk => ?_⟩
  · rw [jadd (x := 125) (y := (k : Int)) (by omega) (by omega), jadd (x := 1) (y := (k : Int)) (by omega) (by omega), jinc (by omega) (by omega), show (125 + (k : Int)).toNat = 125 + k by omega, show (1 + (k : Int)).toNat = 1 + k by omega]
    refine ⟨⟨by omega, by omega⟩, ⟨by omega, by omega⟩, ⟨k + 1, rfl, by omega, ht_up H1_w (by decide) (ht_int H1_w (by decide) _), fun o i e => ?_, ?_, fun i hi_w => ?_⟩, ?_⟩
    · rw [up_ne (fun z => by have := e z.1; have := z.2; omega)]
      exact f1_w o i e
    · rw [up_ne (fun z => by have := z.2; omega)]
      exact z1
    · by_cases e : i = k
      · rw [e, up_eq]
        exact f1_w 191 _ (fun _ => by omega)
      · rw [up_ne (fun z => by have := z.2; omega)]
        exact d1_w i (by omega)
    · show 4 * m - ((k : Int) + 1).toNat < 4 * m - ((k : Int)).toNat
      omega
  · have ek : k = 4 * m := by omega
    subst ek
    have a188 : h1 188 = h 188 := funext fun i => f1_w 188 i (fun z => absurd z (by decide))
    have a189 : h1 189 = h 189 := funext fun i => f1_w 189 i (fun z => absurd z (by decide))
    refine hR _ _ ⟨H1_w, fun i => ?_, fun q hq => ?_, ?_⟩ ?_ (f1_w 182 12 (fun z => absurd z (by decide)))
    · rw [f1_w 182 i (fun z => absurd z (by decide))]
      exact hp.1.2.1 i
    · by_cases e : q = 191
      · subst e
        intro r hr i j k1_w k2 k3
        have hr2 : r ∈ [(0, 1, ((1, 0, 30) : IT)), (1, 250, (1, (-2147483648), 2147483647))] := hr
        have eb : (qA (r_T 0) 191).2.1 = 0 := rfl
        rw [eb, Nat.zero_mul, Nat.zero_add]
        rcases List.mem_cons.mp hr2 with rfl | hr3
        · have i0 : i = 0 := by
            have : i < 1 := k2
            omega
          rw [i0, z1]
          exact ⟨by omega, by omega, by omega, by omega⟩
        · rw [List.mem_singleton] at hr3
          subst hr3
          exact IV.top (ht_int H1_w (by decide) _)
      · have e2_w : h1 q = h q := funext fun i => f1_w q i (fun z => absurd z e)
        rw [e2_w]
        exact hp.1.2.2.1 q hq
    · refine ⟨by rw [a188]; exact hp.1.2.2.2.1, by rw [a188, a189]; exact hp.1.2.2.2.2.1, fun i hi_w => ?_⟩
      rw [z1] at hi_w
      have w := hw i (by omega)
      rw [d1_w (4 * i) (by omega), show 2 + 4 * i = 1 + (4 * i + 1) by omega, show 3 + 4 * i = 1 + (4 * i + 2) by omega, show 4 + 4 * i = 1 + (4 * i + 3) by omega, d1_w _ (by omega), d1_w _ (by omega), d1_w _ (by omega)]
      rw [show 125 + (4 * i + 1) = 126 + 4 * i by omega, show 125 + (4 * i + 2) = 127 + 4 * i by omega, show 125 + (4 * i + 3) = 128 + 4 * i by omega]
      exact w
    · unfold DG
      rw [a188]
      exact hp.2.2
theorem t_214 (hK_w : 4294967300 ≤ K) (c190 : G190 P g (evF xs L ck K cW g_M n)) (c191 : ∀ N, G191 P N g (evF xs L ck K cW g_M n)) (c194 : ∀ N, G194 P N g (evF xs L ck K cW g_M n)) (c201 : ∀ N, G201 P N g (evF xs L ck K cW g_M n)) (c215 : ∀ N, G215 P N g (evF xs L ck K cW g_M n)) (hQ : QK P (r_T 0) (RJ P) h) (hD : DG h) (h0 : 0 ≤ h 182 12) (h1 : h 182 12 ≤ 1001) : ∃ r h', evF xs L ck K cW g_M (n + 1) 214 [182] ((a_g3, g), h) = some (1, r, ((a_g3, g), h')) ∧ B214 P r h' := by
  refine tr_of gm_214 ?_
  show wS _ _ K bb_214 [182, 0, 0] h _
  generalize evF xs L ck K cW g_M n = F at c190 c191 c194 c201 c215 ⊢
  unfold bb_214
  simp only [wf_4, wf_40, wf_5, wf_50, wf_6, wl_1, wt_1, wu_1, wa_1, wl_4, wt_4, wu_4, wa_4, wl_5, wt_5, wu_5, wa_5, wl_6, wt_6, wu_6, wa_6, wl_9, wt_9, wu_9, wa_9, wl_10, wt_10, wu_10, wa_10, wl_11, wt_11, wu_11, wa_11, wl_13, wt_13, wu_13, wa_13, wl_14, wt_14, wu_14, wa_14, wl_15, wt_15, wu_15, wa_15, wl_16, wt_16, wu_16, wa_16, wl_17, wt_17, wu_17, wa_17, wl_20, wt_20, wu_20, wa_20, wl_21, wt_21, wu_21, wa_21, wl_22, wt_22, wu_22, wa_22, wl_23, wt_23, wu_23, wa_23, wl_24, wt_24, wu_24, wa_24, wl_26, wt_26, wu_26, wa_26, wl_27, wt_27, wu_27, wa_27, wl_28, wt_28, wu_28, wa_28, we_1, we_3, we_10, we_14, we_15, we_16, we_17, we_18, we_20, we_21, we_22, we_24, we_25, we_26, we_27, we_28, we_30, we_31, we_32, wc_20, wc_21, wc_22, wc_24, wc_25, wc_26, wc_27, wc_3, wc_4, wc_7, wc_28, wc_32, ws_1, ws_2, ws_3, ws_4, ws_9, ws_10, ws_11, ws_14, ws_15, ws_16, ws_27, ws_17, ws_20, ws_28, kc_0, kc_1, kn_1, kc_2, kn_2, kc_3, kc_4, kc_5, kc_6, kc_7, kc_8, kc_9, kc_10, kc_12, kc_13, kc_14, kc_16, kc_17, kc_18, kc_19, kc_20, kc_21, kc_22, kc_24, kc_28, kc_30, kc_32, kc_37, kc_40, kc_41, kc_42, kc_43, kc_45, kc_48, kc_56, kc_57, kc_59, kc_60, kc_61, kc_64, kc_73, kc_78, kc_91, kc_95, kc_96, kc_97, kc_98, kc_99, kc_100, kc_112, kc_122, kc_125, kc_126, kc_150, kc_162, kc_163, kc_168, kc_186, kc_190, kc_200, kc_250, kc_255, kc_355, kc_356, kc_404, kc_405, kc_429, kc_573, kc_999, kc_1000, kc_1002, kc_1100, kc_1891, kc_2200, kc_4719, kc_4869, kc_4881, kc_5148, kc_9999, kn_9999, kc_10000, kc_12345, kc_19741, kc_25433, kc_65536, kc_320403, kc_628412, kc_629093, kc_660401, kc_679843, kc_918640, kc_979410, kc_1178088, kc_6232410, kc_24644941, kc_36238189, kc_38270444, kc_392531318, kc_425693491, kc_1103515245, kc_1342154595, kc_2147483648, kc_42328242873, kc_891704255789, kc_1722105685577, kc_1858726030364, ct_0, ct_1, ct_2, ct_3, ct_4, ct_5, cf_0, cf_1, cf_2, cf_3, cf_4, cf_5, w_ty6, w_ty7, m_sv, m_z0, m_hd, m_g0, m_gs, m_s0, m_ss, m_ap, m_an, forall_const, true_and, and_true, ne_eq, not_true_eq_false, not_false_eq_true, false_implies, true_implies, implies_true, eq_self, reduceCtorEq, Nat.reduceDiv, Nat.reduceMod, Int.reduceToNat, or_true, true_or, or_false, false_or, or_self, m_it, m_if, m_c1, m_01, m_02, m_03, m_04, m_10, m_12, m_13, m_14, m_20, m_21, m_23, m_24, m_30, m_31, m_32, m_34, m_40, m_41, m_42, m_43]
  have q0 : QK P (r_T 0) (RJ P) (j_up h 182 0 0) := (fd_QK hQ rj_js (k := 0) (Or.inl rfl) ⟨by decide, by decide, in_0⟩).1
  have e12_w : j_up h 182 0 0 182 12 = h 182 12 := up_ne (fun z => absurd z.2 (by decide))
  have d0_w : DG (j_up h 182 0 0) := DG.up hQ hD (up_ne (fun z => absurd z.1 (by decide))) (up_ne (fun z => absurd z.1 (by decide))) (fun m _ => up_ne (fun z => absurd z.1 (by decide))) (fun m _ => up_ne (fun z => absurd z.1 (by decide)))
  obtain ⟨N, h2, x2_w, p2_w, at2_w, fr2⟩ := c190 _ q0 d0_w (by rw [e12_w]; exact h0) (by rw [e12_w]; exact h1)
  replace c191 := c191 N
  replace c194 := c194 N
  replace c201 := c201 N
  replace c215 := c215 N
  have i12 : h2 182 12 = h 182 12 := (fr2 182 12 (fun _ => by decide) (by decide)).trans e12_w
  refine ⟨[], h2, x2_w, ?_⟩
  refine w_lp (fun en h' => ∃ (m : Nat) (w : Int), en = [182, (m : Int), w] ∧ m ≤ 30 ∧ PK P N h' ∧ DW P m h' ∧ h' 182 12 = h 182 12) (fun _ h' => 2 * ((N : Int) - h' 182 7).toNat + (if h' 182 8 = 0 then 1 else 0)) ⟨0, 0, rfl, by decide, p2_w, fun _ i hi_w => by omega, i12⟩ ?_
  rintro en h3 ⟨m, w, rfl, m30, p3_w, w3_w, e3_w⟩
  have b1 := p3_w.2.1.1
  have b2 := p3_w.2.1.2.1
  have b3 := p3_w.2.1.2.2.1
  have b4 := p3_w.2.1.2.2.2.1
  refine ⟨?_, ?_⟩
  · show 2 * ((N : Int) - h3 182 7).toNat + (if h3 182 8 = 0 then 1 else 0) < K
    split <;> omega
  simp only [wf_4, wf_40, wf_5, wf_50, wf_6, wl_1, wt_1, wu_1, wa_1, wl_4, wt_4, wu_4, wa_4, wl_5, wt_5, wu_5, wa_5, wl_6, wt_6, wu_6, wa_6, wl_9, wt_9, wu_9, wa_9, wl_10, wt_10, wu_10, wa_10, wl_11, wt_11, wu_11, wa_11, wl_13, wt_13, wu_13, wa_13, wl_14, wt_14, wu_14, wa_14, wl_15, wt_15, wu_15, wa_15, wl_16, wt_16, wu_16, wa_16, wl_17, wt_17, wu_17, wa_17, wl_20, wt_20, wu_20, wa_20, wl_21, wt_21, wu_21, wa_21, wl_22, wt_22, wu_22, wa_22, wl_23, wt_23, wu_23, wa_23, wl_24, wt_24, wu_24, wa_24, wl_26, wt_26, wu_26, wa_26, wl_27, wt_27, wu_27, wa_27, wl_28, wt_28, wu_28, wa_28, we_1, we_3, we_10, we_14, we_15, we_16, we_17, we_18, we_20, we_21, we_22, we_24, we_25, we_26, we_27, we_28, we_30, we_31, we_32, wc_20, wc_21, wc_22, wc_24, wc_25, wc_26, wc_27, wc_3, wc_4, wc_7, wc_28, wc_32, ws_1, ws_2, ws_3, ws_4, ws_9, ws_10, ws_11, ws_14, ws_15, ws_16, ws_27, ws_17, ws_20, ws_28, kc_0, kc_1, kn_1, kc_2, kn_2, kc_3, kc_4, kc_5, kc_6, kc_7, kc_8, kc_9, kc_10, kc_12, kc_13, kc_14, kc_16, kc_17, kc_18, kc_19, kc_20, kc_21, kc_22, kc_24, kc_28, kc_30, kc_32, kc_37, kc_40, kc_41, kc_42, kc_43, kc_45, kc_48, kc_56, kc_57, kc_59, kc_60, kc_61, kc_64, kc_73, kc_78, kc_91, kc_95, kc_96, kc_97, kc_98, kc_99, kc_100, kc_112, kc_122, kc_125, kc_126, kc_150, kc_162, kc_163, kc_168, kc_186, kc_190, kc_200, kc_250, kc_255, kc_355, kc_356, kc_404, kc_405, kc_429, kc_573, kc_999, kc_1000, kc_1002, kc_1100, kc_1891, kc_2200, kc_4719, kc_4869, kc_4881, kc_5148, kc_9999, kn_9999, kc_10000, kc_12345, kc_19741, kc_25433, kc_65536, kc_320403, kc_628412, kc_629093, kc_660401, kc_679843, kc_918640, kc_979410, kc_1178088, kc_6232410, kc_24644941, kc_36238189, kc_38270444, kc_392531318, kc_425693491, kc_1103515245, kc_1342154595, kc_2147483648, kc_42328242873, kc_891704255789, kc_1722105685577, kc_1858726030364, ct_0, ct_1, ct_2, ct_3, ct_4, ct_5, cf_0, cf_1, cf_2, cf_3, cf_4, cf_5, w_ty6, w_ty7, m_sv, m_z0, m_hd, m_g0, m_gs, m_s0, m_ss, m_ap, m_an, forall_const, true_and, and_true, ne_eq, not_true_eq_false, not_false_eq_true, false_implies, true_implies, implies_true, eq_self, reduceCtorEq, Nat.reduceDiv, Nat.reduceMod, Int.reduceToNat, or_true, true_or, or_false, false_or, or_self, m_it, m_if, m_c1, m_01, m_02, m_03, m_04, m_10, m_12, m_13, m_14, m_20, m_21, m_23, m_24, m_30, m_31, m_32, m_34, m_40, m_41, m_42, m_43]
  have ba_w : 0 ≤ h3 182 7 ∧ h3 182 7 < 1002 := ⟨b2, by omega⟩
  have stop_w : h3 182 8 ≠ 0 → B214 P [h3 182 8] h3 := fun _ => ⟨_, rfl, ht_fld p3_w.1 rfl, p3_w.1, p3_w.2.2, by omega, by omega⟩
  have fin_w : h3 182 8 = 0 → ∀ (m2_w : Nat) (w : Int) (h4 : XH), m2_w ≤ 30 → PK P N h4 → DW P m2_w h4 → h4 182 12 = h 182 12 → h3 182 7 ≤ h4 182 7 → ∃ r h5, F 194 [182, 59] ((a_g3, g), h4) = some (1, r, (a_g3, g), h5) ∧ (∃ m_1 : Nat, ∃ w_1 : Int, [182, (m2_w : Int), w] = [182, (m_1 : Int), w_1] ∧ m_1 ≤ 30 ∧ PK P N h5 ∧ DW P m_1 h5 ∧ h5 182 12 = h 182 12) ∧ (2 * ((N : Int) - h5 182 7).toNat + if h5 182 8 = 0 then 1 else 0) < 2 * ((N : Int) - h3 182 7).toNat + if h3 182 8 = 0 then 1 else 0 := by
    intro z3 m2_w w h4 hm_w p4_w d4_w e4_w at4_w
    obtain ⟨h5, y1, y2, y3, y4⟩ := c194 h4 59 p4_w ⟨by decide, by decide⟩
    refine ⟨[], h5, y1, ⟨m2_w, w, rfl, hm_w, p4_w.pa y2, d4_w.pa y2, (y2.1 182 12 (fun _ => by decide)).trans e4_w⟩, ?_⟩
    rw [if_pos z3]
    by_cases t : tkS h4 59
    · have e5_w := y3 t
      have e7_w : h5 182 7 = h4 182 7 + 1 := by
        rw [e5_w]
        exact up_eq
      have n5_w := y2.2.2.2.2.2
      split <;> omega
    · obtain ⟨k1_w, k2, -⟩ := y4 t
      rw [if_neg k2]
      omega
  have done : h3 182 8 = 0 → wS (a_g3, g) F K (sx 12 (sx 20 (sx 3 (sv 2) z0 z0) (sx 14 (sx 1 (sv 4) (sv 1) z0) (sx 3 (sv 1) z0 z0) (sv 2)) (sv 2)) (sx 20 (sx 7 (sx 5 (sx 3 z0 z0 z0) (sv 14) z0) (sx 14 (sx 1 (sv 1) (sv 1) z0) (sx 3 (sv 2) z0 z0) z0) (so 6 (sx 7 (sx 5 (sx 3 z0 z0 z0) (sv 14) z0) (sx 14 (sx 1 (sv 125) (sv 1) z0) (sx 3 (sv 2) z0 z0) z0) z0))) z0 z0) (sx 4 (sv 2) (sv 1) z0)) [182, (m : Int), 0] (j_up h3 191 0 (m : Int)) fun k vs en1 h1 => (k = 0 → B214 P [0] h1) ∧ (¬k = 0 → k = 1 ∧ B214 P vs h1) := fun z3 => cp_214 hK_w p3_w m30 (w3_w z3) (by omega) (by omega) (fun en h' q d e => ⟨fun _ => ⟨0, rfl, in_0, q, d, by omega, by omega⟩, fun z => absurd rfl z⟩)
  refine ⟨fun z3 => ⟨ba_w, fun hs => ?_, fun hs => ⟨fun z => by omega, fun _ => ⟨⟨by decide, by decide⟩, done z3⟩⟩⟩, fun z3 => ⟨fun _ => stop_w z3, fun z => by omega⟩⟩
  obtain ⟨v, x1_w, v0_w, -, ok, -⟩ := c201 h3 9 4 p3_w (by decide) (by decide) (by decide)
  refine ⟨[v], h3, x1_w, fun hv => ?_, fun hv => ⟨fun hm_w => ?_, fun hm_w => ?_⟩⟩
  · obtain ⟨h4, y1, a4, -⟩ := c191 h3 1 p3_w (by decide) (by decide)
    exact ⟨[], h4, y1, fin_w z3 m _ h4 m30 (p3_w.pa a4) (w3_w.pa a4) ((a4.1 182 12 (fun _ => by decide)).trans e3_w) a4.2.2.2.2.1⟩
  · obtain ⟨h4, y1, a4, -⟩ := c191 h3 5 p3_w (by decide) (by decide)
    exact ⟨[], h4, y1, fin_w z3 m _ h4 m30 (p3_w.pa a4) (w3_w.pa a4) ((a4.1 182 12 (fun _ => by decide)).trans e3_w) a4.2.2.2.2.1⟩
  · have hv : 0 ≤ v := hv
    obtain ⟨v4_w, tk⟩ := ok hv
    have a4 := PA.next p3_w hs
    have p4_w : PK P N (atp h3) := p3_w.pa a4
    rw [jat p3_w, jmul (x := 4) (y := (m : Int)) (by omega) (by omega), jadd (x := 125) (y := 4 * (m : Int)) (by omega) (by omega), j32_in (v := (m : Int) + 1) ⟨by omega, by omega⟩, show 125 + 4 * (m : Int) = ((125 + 4 * m : Nat) : Int) by omega, show (m : Int) + 1 = ((m + 1 : Nat) : Int) by omega]
    obtain ⟨h5, y1, p5_w, l5, ln⟩ := c215 (atp h3) (125 + 4 * m) v p4_w (by omega) (by omega) hv (by omega)
    have z4 : atp h3 182 8 = 0 := atp_8.trans z3
    have at4_w : atp h3 182 7 = h3 182 7 + 1 := up_eq
    have at5_w := l5.2.2.2.2.1
    refine ⟨[], h5, y1, fin_w z3 (m + 1) _ h5 (by omega) p5_w (fun z i hi_w => ?_) ?_ (by omega)⟩
    · by_cases e : i = m
      · subst e
        have k := ln z
        rw [show 125 + 4 * i + 1 = 126 + 4 * i by omega, show 125 + 4 * i + 2 = 127 + 4 * i by omega, show 125 + 4 * i + 3 = 128 + 4 * i by omega] at k
        exact k
      · have c : ∀ j, j < 125 + 4 * m → h5 191 j = h3 191 j := fun j hj => (l5.1 191 j (fun z => absurd z (by decide)) (fun _ => Or.inl hj)).trans (up_ne (fun z => absurd z.1 (by decide)))
        rw [c _ (by omega), c _ (by omega), c _ (by omega), c _ (by omega)]
        exact w3_w z3 i (by omega)
    · rw [l5.1 182 12 (fun _ => by decide) (fun z => absurd z (by decide))]
      exact (up_ne (fun z => absurd z.2 (by decide))).trans e3_w
end PARH
end
section
/-! ===== the reference_w: begins ===== -/
def JT : XH → Prop := fun _ => True
theorem jt_js : JS (r_T 0) JT := fun _ _ _ _ => trivial
section PARI
variable {P : Int × Int} {N : Nat} {g : Nat × Nat} {xs : Nat → Int} {L K n : Nat} {ck : Nat → List Nat} {cW : Nat → Nat → Int} {h h' h1 h2 : XH} {F : XP}
theorem s_228 : ∀ h : XH, evF xs L ck K cW g_M (n + 1) 228 [182] ((a_g3, g), h) = some (1, [h 188 3], ((a_g3, g), h)) := fun h => by
  suffices hs : ∃ r h', evF xs L ck K cW g_M (n + 1) 228 [182] ((a_g3, g), h) = some (1, r, ((a_g3, g), h')) ∧ r = [h 188 3] ∧ h' = h by
    obtain ⟨r, h', e1_w, rfl, rfl⟩ := hs
    exact e1_w
  refine tr_of gm_228 (B := fun r h' => r = [h 188 3] ∧ h' = h) ?_
  show wS _ _ K bb_228 [182] h _
  generalize evF xs L ck K cW g_M n = F
  unfold bb_228
  simp only [wf_4, wf_40, wf_5, wf_50, wf_6, wl_1, wt_1, wu_1, wa_1, wl_4, wt_4, wu_4, wa_4, wl_5, wt_5, wu_5, wa_5, wl_6, wt_6, wu_6, wa_6, wl_9, wt_9, wu_9, wa_9, wl_10, wt_10, wu_10, wa_10, wl_11, wt_11, wu_11, wa_11, wl_13, wt_13, wu_13, wa_13, wl_14, wt_14, wu_14, wa_14, wl_15, wt_15, wu_15, wa_15, wl_16, wt_16, wu_16, wa_16, wl_17, wt_17, wu_17, wa_17, wl_20, wt_20, wu_20, wa_20, wl_21, wt_21, wu_21, wa_21, wl_22, wt_22, wu_22, wa_22, wl_23, wt_23, wu_23, wa_23, wl_24, wt_24, wu_24, wa_24, wl_26, wt_26, wu_26, wa_26, wl_27, wt_27, wu_27, wa_27, wl_28, wt_28, wu_28, wa_28, we_1, we_3, we_10, we_14, we_15, we_16, we_17, we_18, we_20, we_21, we_22, we_24, we_25, we_26, we_27, we_28, we_30, we_31, we_32, wc_20, wc_21, wc_22, wc_24, wc_25, wc_26, wc_27, wc_3, wc_4, wc_7, wc_28, wc_32, ws_1, ws_2, ws_3, ws_4, ws_9, ws_10, ws_11, ws_14, ws_15, ws_16, ws_27, ws_17, ws_20, ws_28, kc_0, kc_1, kn_1, kc_2, kn_2, kc_3, kc_4, kc_5, kc_6, kc_7, kc_8, kc_9, kc_10, kc_12, kc_13, kc_14, kc_16, kc_17, kc_18, kc_19, kc_20, kc_21, kc_22, kc_24, kc_28, kc_30, kc_32, kc_37, kc_40, kc_41, kc_42, kc_43, kc_45, kc_48, kc_56, kc_57, kc_59, kc_60, kc_61, kc_64, kc_73, kc_78, kc_91, kc_95, kc_96, kc_97, kc_98, kc_99, kc_100, kc_112, kc_122, kc_125, kc_126, kc_150, kc_162, kc_163, kc_168, kc_186, kc_190, kc_200, kc_250, kc_255, kc_355, kc_356, kc_404, kc_405, kc_429, kc_573, kc_999, kc_1000, kc_1002, kc_1100, kc_1891, kc_2200, kc_4719, kc_4869, kc_4881, kc_5148, kc_9999, kn_9999, kc_10000, kc_12345, kc_19741, kc_25433, kc_65536, kc_320403, kc_628412, kc_629093, kc_660401, kc_679843, kc_918640, kc_979410, kc_1178088, kc_6232410, kc_24644941, kc_36238189, kc_38270444, kc_392531318, kc_425693491, kc_1103515245, kc_1342154595, kc_2147483648, kc_42328242873, kc_891704255789, kc_1722105685577, kc_1858726030364, ct_0, ct_1, ct_2, ct_3, ct_4, ct_5, cf_0, cf_1, cf_2, cf_3, cf_4, cf_5, w_ty6, w_ty7, m_sv, m_z0, m_hd, m_g0, m_gs, m_s0, m_ss, m_ap, m_an, forall_const, true_and, and_true, ne_eq, not_true_eq_false, not_false_eq_true, false_implies, true_implies, implies_true, eq_self, reduceCtorEq, Nat.reduceDiv, Nat.reduceMod, Int.reduceToNat, or_true, true_or, or_false, false_or, or_self, m_it, m_if, m_c1, m_01, m_02, m_03, m_04, m_10, m_12, m_13, m_14, m_20, m_21, m_23, m_24, m_30, m_31, m_32, m_34, m_40, m_41, m_42, m_43]
  exact ⟨by decide, by decide⟩
theorem t_225 : TotR P (r_T 0) JT g (evF xs L ck K cW g_M (n + 1)) 225 := fun av h hQ hv => by
  obtain ⟨x, rfl, hx⟩ : ∃ x, av = [x] ∧ IV P (4, 182, 182) x := by
    match av, hv with
    | [x], hv => exact ⟨x, rfl, hv.1⟩
  obtain rfl : x = 182 := hx
  have s := q_slots hQ
  exact ⟨_, h, s_225 h, hQ, fun _ _ _ => rfl, ⟨⟨s.1, s.2, by omega, by omega⟩, trivial⟩, fun _ => hv⟩
theorem t_228 : TotR P (r_T 0) JT g (evF xs L ck K cW g_M (n + 1)) 228 := fun av h hQ hv => by
  obtain ⟨x, rfl, hx⟩ : ∃ x, av = [x] ∧ IV P (4, 182, 182) x := by
    match av, hv with
    | [x], hv => exact ⟨x, rfl, hv.1⟩
  obtain rfl : x = 182 := hx
  have s := q_nM hQ
  exact ⟨_, h, s_228 h, hQ, fun _ _ _ => rfl, ⟨⟨s.1, by omega, by omega⟩, trivial⟩, fun _ => hv⟩
theorem aw_QK (hQ : QK P (r_T 0) JT h) {q i : Nat} {v : Int} (hH : HT g_fk a_g3 (j_up h q i v)) (hq : q ≠ 182) (hb_w : (r_A q).2.1 = 0) (hv : ∀ r ∈ (r_A q).2.2, r.1 ≤ i → i < r.2.1 → IV P r.2.2 v) : QK P (r_T 0) JT (j_up h q i v) := by
  refine ⟨hH, fun k => ?_, fun q' hq' => ?_, trivial⟩
  · rw [up_ne (fun z => hq z.1.symm)]
    exact hQ.2.1 k
  · by_cases e : q' = q
    · subst e
      intro r hr a b k1_w k2 k3
      have eb : (qA (r_T 0) q').2.1 = 0 := hb_w
      have old_w := hQ.2.2.1 q' hq' r hr a b k1_w k2 k3
      rw [eb, Nat.zero_mul, Nat.zero_add] at old_w ⊢
      by_cases e2_w : a = i
      · subst e2_w
        rw [up_eq]
        exact hv r hr k1_w k2
      · rw [up_ne (fun z => e2_w z.2)]
        exact old_w
    · have e2_w : j_up h q i v q' = h q' := funext fun i => up_ne (fun z => e z.1)
      rw [e2_w]
      exact hQ.2.2.1 q' hq'
def B241 (P : Int × Int) (h : XH) (r : List Int) (h' : XH) : Prop := r = [] ∧ QK P (r_T 0) (RJ P) h' ∧ h' 188 = h 188 ∧ h' 182 12 = h 182 12
theorem t_241 (hK_w : 4294967300 ≤ K) (hQ : QK P (r_T 0) JT h) (hG : GridOK (h 188) 0 P.1 P.2) (hL : 0 ≤ h 188 4 → CodeOK (h 189) (h 188 4).toNat) : ∃ r h', evF xs L ck K cW g_M (n + 3) 241 [182] ((a_g3, g), h) = some (1, r, ((a_g3, g), h')) ∧ B241 P h r h' := by
  have c240 : TotR P (r_T 0) JT g (evF xs L ck K cW g_M (n + 1 + 1)) 240 := t_240 (n := n + 1) jt_js hK_w t_228 t_225
  obtain ⟨h2, x2_w, q2_w, k2⟩ := use0 c240 rp_240 rr_240 hQ (av := [182, 0]) ⟨rfl, ⟨in_0, 0, by decide, by decide, by decide⟩, trivial⟩
  have fr := (fr_all (n + 2) 240 [182, 0] (a_g3, g) h 1 [] (a_g3, g) h2 (by decide +kernel) rfl (Or.inr rfl) x2_w).2
  have e12_w : h2 182 12 = h 182 12 := fr 182 12 (fun _ => by decide +kernel) (by decide +kernel)
  have e188 : h2 188 = h 188 := funext fun i => k2 188 i rfl
  have e189 : h2 189 = h 189 := funext fun i => k2 189 i rfl
  refine tr_of (n := n + 2) gm_241 ?_
  show wS _ _ K bb_241 [182] h _
  generalize evF xs L ck K cW g_M (n + 2) = F at x2_w ⊢
  unfold bb_241
  simp only [wf_4, wf_40, wf_5, wf_50, wf_6, wl_1, wt_1, wu_1, wa_1, wl_4, wt_4, wu_4, wa_4, wl_5, wt_5, wu_5, wa_5, wl_6, wt_6, wu_6, wa_6, wl_9, wt_9, wu_9, wa_9, wl_10, wt_10, wu_10, wa_10, wl_11, wt_11, wu_11, wa_11, wl_13, wt_13, wu_13, wa_13, wl_14, wt_14, wu_14, wa_14, wl_15, wt_15, wu_15, wa_15, wl_16, wt_16, wu_16, wa_16, wl_17, wt_17, wu_17, wa_17, wl_20, wt_20, wu_20, wa_20, wl_21, wt_21, wu_21, wa_21, wl_22, wt_22, wu_22, wa_22, wl_23, wt_23, wu_23, wa_23, wl_24, wt_24, wu_24, wa_24, wl_26, wt_26, wu_26, wa_26, wl_27, wt_27, wu_27, wa_27, wl_28, wt_28, wu_28, wa_28, we_1, we_3, we_10, we_14, we_15, we_16, we_17, we_18, we_20, we_21, we_22, we_24, we_25, we_26, we_27, we_28, we_30, we_31, we_32, wc_20, wc_21, wc_22, wc_24, wc_25, wc_26, wc_27, wc_3, wc_4, wc_7, wc_28, wc_32, ws_1, ws_2, ws_3, ws_4, ws_9, ws_10, ws_11, ws_14, ws_15, ws_16, ws_27, ws_17, ws_20, ws_28, kc_0, kc_1, kn_1, kc_2, kn_2, kc_3, kc_4, kc_5, kc_6, kc_7, kc_8, kc_9, kc_10, kc_12, kc_13, kc_14, kc_16, kc_17, kc_18, kc_19, kc_20, kc_21, kc_22, kc_24, kc_28, kc_30, kc_32, kc_37, kc_40, kc_41, kc_42, kc_43, kc_45, kc_48, kc_56, kc_57, kc_59, kc_60, kc_61, kc_64, kc_73, kc_78, kc_91, kc_95, kc_96, kc_97, kc_98, kc_99, kc_100, kc_112, kc_122, kc_125, kc_126, kc_150, kc_162, kc_163, kc_168, kc_186, kc_190, kc_200, kc_250, kc_255, kc_355, kc_356, kc_404, kc_405, kc_429, kc_573, kc_999, kc_1000, kc_1002, kc_1100, kc_1891, kc_2200, kc_4719, kc_4869, kc_4881, kc_5148, kc_9999, kn_9999, kc_10000, kc_12345, kc_19741, kc_25433, kc_65536, kc_320403, kc_628412, kc_629093, kc_660401, kc_679843, kc_918640, kc_979410, kc_1178088, kc_6232410, kc_24644941, kc_36238189, kc_38270444, kc_392531318, kc_425693491, kc_1103515245, kc_1342154595, kc_2147483648, kc_42328242873, kc_891704255789, kc_1722105685577, kc_1858726030364, ct_0, ct_1, ct_2, ct_3, ct_4, ct_5, cf_0, cf_1, cf_2, cf_3, cf_4, cf_5, w_ty6, w_ty7, m_sv, m_z0, m_hd, m_g0, m_gs, m_s0, m_ss, m_ap, m_an, forall_const, true_and, and_true, ne_eq, not_true_eq_false, not_false_eq_true, false_implies, true_implies, implies_true, eq_self, reduceCtorEq, Nat.reduceDiv, Nat.reduceMod, Int.reduceToNat, or_true, true_or, or_false, false_or, or_self, m_it, m_if, m_c1, m_01, m_02, m_03, m_04, m_10, m_12, m_13, m_14, m_20, m_21, m_23, m_24, m_30, m_31, m_32, m_34, m_40, m_41, m_42, m_43]
  refine ⟨[], h2, x2_w, ⟨by decide, by decide⟩, ⟨by decide, by decide⟩, ⟨by decide, by decide⟩, ⟨by decide, by decide⟩, ?_⟩
  have w9 : w_ty 9 0 = 0 := by decide +kernel
  rw [w9]
  have q3_w : QK P (r_T 0) JT (j_up h2 194 404 0) := (st_QK (j := 0) (i := 404) (v := 0) q2_w jt_js (by decide) (by decide) (st_fit_ok (lo_w := 404) (hi_w := 405) (t := (1, 0, 0)) (by decide +kernel) (by decide) (by decide) ⟨by decide, by decide, in_0⟩) in_0).1
  have q4_w := aw_QK q3_w (q := 191) (i := 0) (v := 0) (ht_up q3_w.1 (by decide) in_0) (by decide) rfl (fun r hr a1_w a2 => IV.sub (List.all_eq_true.mp (show (r_A 191).2.2.all (fun r => i_sub (1, 0, 0) r.2.2) = true by decide +kernel) r hr) ⟨by decide, by decide, in_0⟩)
  have q5_w := (fd_QK q4_w jt_js (k := 18) (v := 0) (Or.inl rfl) ⟨by decide, by decide, in_0⟩).1
  have q6_w := (fd_QK q5_w jt_js (k := 19) (v := 0) (Or.inl rfl) (IV.top in_0)).1
  have in0L : InL 0 := ⟨by decide, by decide⟩
  have f195 : (r_A 195).2.2.all (fun r => i_sub (1, 0, 0) r.2.2) = true := by decide +kernel
  have q7_w := aw_QK q6_w (q := 195) (i := 0) (v := 0) (q6_w.1.up (fun _ => in_0) (fun _ => in0L) (fun _ => Or.inl rfl)) (by decide) rfl (fun r hr _ _ => IV.sub (List.all_eq_true.mp f195 r hr) ⟨by decide, by decide, in_0⟩)
  have q8_w := aw_QK q7_w (q := 195) (i := 1) (v := 0) (q7_w.1.up (fun _ => in_0) (fun _ => in0L) (fun _ => Or.inl rfl)) (by decide) rfl (fun r hr _ _ => IV.sub (List.all_eq_true.mp f195 r hr) ⟨by decide, by decide, in_0⟩)
  have o : ∀ q i : Nat, q ≠ 194 → q ≠ 191 → q ≠ 195 → (q = 182 → i ≠ 18 ∧ i ≠ 19) → j_up (j_up (j_up (j_up (j_up (j_up h2 194 404 0) 191 0 0) 182 18 0) 182 19 0) 195 0 0) 195 1 0 q i = h2 q i := fun q i z1 z2 z3 z4 => by
    rw [up_ne (fun z => z3 z.1), up_ne (fun z => z3 z.1), up_ne (fun z => (z4 z.1).2 z.2), up_ne (fun z => (z4 z.1).1 z.2), up_ne (fun z => z2 z.1), up_ne (fun z => z1 z.1)]
  have o188 : j_up (j_up (j_up (j_up (j_up (j_up h2 194 404 0) 191 0 0) 182 18 0) 182 19 0) 195 0 0) 195 1 0 188 = h 188 := funext fun i => (o 188 i (by decide) (by decide) (by decide) (fun z => absurd z (by decide))).trans (congrFun e188 i)
  have o189 : j_up (j_up (j_up (j_up (j_up (j_up h2 194 404 0) 191 0 0) 182 18 0) 182 19 0) 195 0 0) 195 1 0 189 = h 189 := funext fun i => (o 189 i (by decide) (by decide) (by decide) (fun z => absurd z (by decide))).trans (congrFun e189 i)
  have o191 : j_up (j_up (j_up (j_up (j_up (j_up h2 194 404 0) 191 0 0) 182 18 0) 182 19 0) 195 0 0) 195 1 0 191 0 = 0 := by
    rw [up_ne (fun z => absurd z.1 (by decide)), up_ne (fun z => absurd z.1 (by decide)), up_ne (fun z => absurd z.1 (by decide)), up_ne (fun z => absurd z.1 (by decide)), up_eq]
  refine ⟨rfl, ⟨q8_w.1, q8_w.2.1, q8_w.2.2.1, ?_, ?_, fun i hi_w => ?_⟩, o188, (o 182 12 (by decide) (by decide) (by decide) (fun _ => by decide)).trans e12_w⟩
  · rw [o188]
    exact hG
  · rw [o188, o189]
    exact hL
  · rw [o191] at hi_w
    omega
end PARI
end
section
/-! ===== the reference's parser: a draft comes into_w force ===== -/
theorem rows_188 : (r_A 188).2.2.all (fun r => (Nat.ble 95 r.1 && Nat.beq r.2.2.1 1) || (Nat.ble r.2.1 95 && (decide (r = (3, 4, (7, 0, 0))) || decide (r = (1, 2, (8, 0, 0))) || (Nat.beq r.2.2.1 1 && (r_A 188).2.2.any (fun s => decide (s = (r.1 + 95, r.2.1 + 95, r.2.2))))))) = true := by decide +kernel
theorem rows_lo : (List.range 20).all (fun k => Nat.beq k 5 || (r_A (183 + k)).2.2.all (fun r => Nat.ble r.2.2.1 4)) = true := by decide +kernel
section PARJ
variable {P P'_w : Int × Int} {N : Nat} {g : Nat × Nat} {h h' h1 h2 : XH}
theorem iv_any {t : IT} {v : Int} (ht : t.1 ≤ 4) (hv : IV P t v) : IV P'_w t v := by
  obtain ⟨k, l, u⟩ := t
  have hk : k ≤ 4 := ht
  match k, hk with
  | 0, _ => exact trivial
  | 1, _ => exact hv
  | 2, _ => exact hv
  | 3, _ => exact hv
  | 4, _ => exact hv
theorem rows_any {q : Nat} (hq : 183 ≤ q) (h8 : q ≠ 188) : ∀ r ∈ (r_A q).2.2, r.2.2.1 ≤ 4 := by
  intro r hr
  by_cases hi_w : q < 203
  · have k := List.all_eq_true.mp rows_lo (q - 183) (List.mem_range.mpr (by omega))
    rw [show 183 + (q - 183) = q by omega, Bool.or_eq_true] at k
    rcases k with k | k
    · have := Nat.eq_of_beq_eq_true k
      omega
    · exact Nat.le_of_ble_eq_true (List.all_eq_true.mp k r hr)
  · have e : r_A q = (0, 0, []) := by
      unfold r_A
      rw [show Nat.ble 183 q = true from Nat.ble_eq.mpr hq]
      rw [cond_true]
      rw [List.getD_eq_getElem?_getD, List.getElem?_eq_none (by have : r_As.length = 20 := rfl; omega)]
      rfl
    rw [e] at hr
    cases hr
/-- what the draft says_w is_w in force -/
theorem new_QK (hQ : QK P (r_T 0) (RJ P) h) (hP : P'_w = (h 188 98, h 188 96)) (hH : HT g_fk a_g3 h') (hF : ∀ k, h' 182 k = h 182 k) (h0 : ∀ i, i < 95 → h' 188 i = h 188 (95 + i)) (hi_w : ∀ i, 95 ≤ i → h' 188 i = h 188 i) (ho : ∀ q i : Nat, 183 ≤ q → q ≠ 188 → q ≠ 189 → q ≠ 190 → h' q i = h q i) : QK P'_w (r_T 0) JT h' := by
  have r6 := r_98 hQ
  have r4 := r_96 hQ
  refine ⟨hH, fun k => ?_, fun q hq => ?_, trivial⟩
  · rw [hF]
    have old_w := hQ.2.1 k
    have lo_w : ∀ k, (r_F k).1 ≤ 4 := fun k => by
      by_cases z : k < 30
      · exact Nat.le_of_ble_eq_true (List.all_eq_true.mp (show (List.range 30).all (fun k => Nat.ble (r_F k).1 4) = true by decide +kernel) k (List.mem_range.mpr z))
      · have e : r_F k = (0, 0, 0) := by
          unfold r_F
          rw [List.getD_eq_getElem?_getD, List.getElem?_eq_none (by show 30 ≤ k; omega)]
          rfl
        rw [e]
        decide
    exact iv_any (lo_w k) old_w
  · intro r hr i j k1_w k2 k3
    have old_w := hQ.2.2.1 q hq r hr i j k1_w k2 k3
    by_cases e8 : q = 188
    · subst e8
      have eb : (qA (r_T 0) 188).2.1 = 0 := rfl
      rw [eb, Nat.zero_mul, Nat.zero_add] at old_w ⊢
      have c := List.all_eq_true.mp rows_188 r hr
      simp only [Bool.or_eq_true, Bool.and_eq_true, Nat.ble_eq, decide_eq_true_eq] at c
      rcases c with ⟨c1_w, c2⟩ | ⟨c1_w, (c2 | c2) | ⟨c2, c3⟩⟩
      · have c2 := Nat.eq_of_beq_eq_true c2
        rw [hi_w i (by omega)]
        exact iv_any (by omega) old_w
      · subst c2
        have : i = 3 := by
          have k1_w : 3 ≤ i := k1_w
          have k2 : i < 4 := k2
          omega
        subst this
        rw [h0 3 (by decide), hP]
        exact ⟨rfl, r6.1, r6.2⟩
      · subst c2
        have : i = 1 := by
          have k1_w : 1 ≤ i := k1_w
          have k2 : i < 2 := k2
          omega
        subst this
        rw [h0 1 (by decide), hP]
        exact ⟨rfl, r4.1, r4.2⟩
      · have c2 := Nat.eq_of_beq_eq_true c2
        rw [List.any_eq_true] at c3
        obtain ⟨s, s1_w, s2_w⟩ := c3
        have s2_w := of_decide_eq_true s2_w
        subst s2_w
        have k := hQ.2.2.1 188 hq _ s1_w (95 + i) 0 (by show r.1 + 95 ≤ 95 + i; omega) (by show 95 + i < r.2.1 + 95; omega) (by decide)
        rw [eb, Nat.zero_mul, Nat.zero_add] at k
        rw [h0 i (by omega)]
        exact iv_any (by omega) k
    · by_cases e9_w : q = 189
      · subst e9_w
        have hr2 : r ∈ [(0, 2200, ((1, (-2147483648), 2147483647) : IT))] := hr
        rw [List.mem_singleton] at hr2
        subst hr2
        exact IV.top (ht_int hH (by decide) _)
      · by_cases e10_w : q = 190
        · subst e10_w
          have hr2 : r ∈ [(0, 28, ((2, (-9223372036854775808), 9223372036854775807) : IT))] := hr
          rw [List.mem_singleton] at hr2
          subst hr2
          exact IV.topL (ht_long hH (by decide) _)
        · rw [ho q _ hq e8 e9_w e10_w]
          exact iv_any (rows_any hq e8 r hr) old_w
end PARJ
end
section
/-! ===== the reference's parser: a grid ===== -/
def B206 (r : List Int) (h' : XH) : Prop := ∃ v, r = [v] ∧ InI v ∧ LQ h'
section PARK
variable {P : Int × Int} {N : Nat} {g : Nat × Nat} {xs : Nat → Int} {L K n : Nat} {ck : Nat → List Nat} {cW : Nat → Nat → Int} {h h' h1 h2 : XH} {F : XP}
theorem t_206 (hK_w : 4294967300 ≤ K) (c190 : G190 P g (evF xs L ck K cW g_M n)) (c194 : ∀ N, G194 P N g (evF xs L ck K cW g_M n)) (c199 : G199 P g (evF xs L ck K cW g_M n)) (c210 : ∀ N, G210 P N g (evF xs L ck K cW g_M n)) (c241 : ∀ (P'_w : Int × Int) (h : XH), QK P'_w (r_T 0) JT h → GridOK (h 188) 0 P'_w.1 P'_w.2 → (0 ≤ h 188 4 → CodeOK (h 189) (h 188 4).toNat) → ∃ r h', evF xs L ck K cW g_M n 241 [182] ((a_g3, g), h) = some (1, r, ((a_g3, g), h')) ∧ B241 P'_w h r h') (hQ : QK P (r_T 0) (RJ P) h) (hD : DG h) (h0 : 0 ≤ h 182 12) (h1 : h 182 12 ≤ 1001) : ∃ r h', evF xs L ck K cW g_M (n + 1) 206 [182] ((a_g3, g), h) = some (1, r, ((a_g3, g), h')) ∧ B206 r h' := by
  refine tr_of gm_206 ?_
  show wS _ _ K bb_206 [182, 0] h _
  generalize evF xs L ck K cW g_M n = F at c190 c194 c199 c210 c241 ⊢
  unfold bb_206
  simp only [wf_4, wf_40, wf_5, wf_50, wf_6, wl_1, wt_1, wu_1, wa_1, wl_4, wt_4, wu_4, wa_4, wl_5, wt_5, wu_5, wa_5, wl_6, wt_6, wu_6, wa_6, wl_9, wt_9, wu_9, wa_9, wl_10, wt_10, wu_10, wa_10, wl_11, wt_11, wu_11, wa_11, wl_13, wt_13, wu_13, wa_13, wl_14, wt_14, wu_14, wa_14, wl_15, wt_15, wu_15, wa_15, wl_16, wt_16, wu_16, wa_16, wl_17, wt_17, wu_17, wa_17, wl_20, wt_20, wu_20, wa_20, wl_21, wt_21, wu_21, wa_21, wl_22, wt_22, wu_22, wa_22, wl_23, wt_23, wu_23, wa_23, wl_24, wt_24, wu_24, wa_24, wl_26, wt_26, wu_26, wa_26, wl_27, wt_27, wu_27, wa_27, wl_28, wt_28, wu_28, wa_28, we_1, we_3, we_10, we_14, we_15, we_16, we_17, we_18, we_20, we_21, we_22, we_24, we_25, we_26, we_27, we_28, we_30, we_31, we_32, wc_20, wc_21, wc_22, wc_24, wc_25, wc_26, wc_27, wc_3, wc_4, wc_7, wc_28, wc_32, ws_1, ws_2, ws_3, ws_4, ws_9, ws_10, ws_11, ws_14, ws_15, ws_16, ws_27, ws_17, ws_20, ws_28, kc_0, kc_1, kn_1, kc_2, kn_2, kc_3, kc_4, kc_5, kc_6, kc_7, kc_8, kc_9, kc_10, kc_12, kc_13, kc_14, kc_16, kc_17, kc_18, kc_19, kc_20, kc_21, kc_22, kc_24, kc_28, kc_30, kc_32, kc_37, kc_40, kc_41, kc_42, kc_43, kc_45, kc_48, kc_56, kc_57, kc_59, kc_60, kc_61, kc_64, kc_73, kc_78, kc_91, kc_95, kc_96, kc_97, kc_98, kc_99, kc_100, kc_112, kc_122, kc_125, kc_126, kc_150, kc_162, kc_163, kc_168, kc_186, kc_190, kc_200, kc_250, kc_255, kc_355, kc_356, kc_404, kc_405, kc_429, kc_573, kc_999, kc_1000, kc_1002, kc_1100, kc_1891, kc_2200, kc_4719, kc_4869, kc_4881, kc_5148, kc_9999, kn_9999, kc_10000, kc_12345, kc_19741, kc_25433, kc_65536, kc_320403, kc_628412, kc_629093, kc_660401, kc_679843, kc_918640, kc_979410, kc_1178088, kc_6232410, kc_24644941, kc_36238189, kc_38270444, kc_392531318, kc_425693491, kc_1103515245, kc_1342154595, kc_2147483648, kc_42328242873, kc_891704255789, kc_1722105685577, kc_1858726030364, ct_0, ct_1, ct_2, ct_3, ct_4, ct_5, cf_0, cf_1, cf_2, cf_3, cf_4, cf_5, w_ty6, w_ty7, m_sv, m_z0, m_hd, m_g0, m_gs, m_s0, m_ss, m_ap, m_an, forall_const, true_and, and_true, ne_eq, not_true_eq_false, not_false_eq_true, false_implies, true_implies, implies_true, eq_self, reduceCtorEq, Nat.reduceDiv, Nat.reduceMod, Int.reduceToNat, or_true, true_or, or_false, false_or, or_self, m_it, m_if, m_c1, m_01, m_02, m_03, m_04, m_10, m_12, m_13, m_14, m_20, m_21, m_23, m_24, m_30, m_31, m_32, m_34, m_40, m_41, m_42, m_43]
  have q0 : QK P (r_T 0) (RJ P) (j_up h 182 0 0) := (fd_QK hQ rj_js (k := 0) (Or.inl rfl) ⟨by decide, by decide, in_0⟩).1
  have e12_w : j_up h 182 0 0 182 12 = h 182 12 := up_ne (fun z => absurd z.2 (by decide))
  have d0_w : DG (j_up h 182 0 0) := DG.up hQ hD (up_ne (fun z => absurd z.1 (by decide))) (up_ne (fun z => absurd z.1 (by decide))) (fun m _ => up_ne (fun z => absurd z.1 (by decide))) (fun m _ => up_ne (fun z => absurd z.1 (by decide)))
  obtain ⟨N, h2, x2_w, p2_w, at2_w, fr2⟩ := c190 _ q0 d0_w (by rw [e12_w]; exact h0) (by rw [e12_w]; exact h1)
  replace c194 := c194 N
  replace c210 := c210 N
  have q2_w : QK P (r_T 0) (RJ P) (j_up h2 182 12 0) := (fd_QK p2_w.1 rj_js (k := 12) (Or.inl rfl) (IV.top in_0)).1
  obtain ⟨h3, x3, q3_w, f3_w, z3, n3_w⟩ := c199 _ q2_w
  obtain ⟨p2q, ⟨t1_w, t2_w, t3_w, t4_w, t5_w, t6, t7, t8⟩, p2d⟩ := p2_w
  have o3_w : ∀ o k : Nat, (o = 182 → k ≠ 12) → (o ≠ 188) → h3 o k = h2 o k := fun o k z1 z2 => (f3_w o k (fun z => absurd z z2)).trans (up_ne (fun z => z1 z.1 z.2))
  have c3 : h3 182 12 = 0 := (f3_w 182 12 (fun z => absurd z (by decide))).trans up_eq
  have a3 : h3 182 7 = 0 := (o3_w 182 7 (fun _ => by decide) (by decide)).trans at2_w
  have dr3 : DR P N h3 := by
    refine ⟨⟨q3_w, ⟨?_, ?_, ?_, t4_w, ?_, ?_, ?_, fun i hi_w hs => ?_⟩, fun m hm_w => ?_, fun c hc_w => ?_⟩, ?_, Or.inl n3_w⟩
    · rw [o3_w 182 8 (fun _ => by decide) (by decide)]
      exact t1_w
    · omega
    · omega
    · rw [o3_w 184 N (fun z => absurd z (by decide)) (by decide)]
      exact t5_w
    · omega
    · omega
    · rw [o3_w 184 i (fun z => absurd z (by decide)) (by decide)] at hs
      rw [o3_w 186 i (fun z => absurd z (by decide)) (by decide)]
      exact t8 i hi_w hs
    · rw [z3 98 (by decide) (by decide) (by decide)] at hm_w
      omega
    · rw [z3 96 (by decide) (by decide) (by decide)] at hc_w
      omega
    · omega
  refine ⟨[], h2, x2_w, [], h3, x3, ?_⟩
  refine w_lp (fun en h' => en = [182, 0] ∧ DR P N h') (fun _ h' => 2 * ((N : Int) - h' 182 7).toNat + (if h' 182 8 = 0 then 1 else 0)) ⟨rfl, dr3⟩ ?_
  rintro en h4 ⟨rfl, r4⟩
  obtain ⟨p4_w, c4, l4⟩ := id r4
  obtain ⟨p4q, ⟨s1_w, s2_w, s3_w, s4_w, s5, s6_w, s7, s8⟩, p4d⟩ := id p4_w
  refine ⟨?_, ?_⟩
  · show 2 * ((N : Int) - h4 182 7).toNat + (if h4 182 8 = 0 then 1 else 0) < K
    split <;> omega
  simp only [wf_4, wf_40, wf_5, wf_50, wf_6, wl_1, wt_1, wu_1, wa_1, wl_4, wt_4, wu_4, wa_4, wl_5, wt_5, wu_5, wa_5, wl_6, wt_6, wu_6, wa_6, wl_9, wt_9, wu_9, wa_9, wl_10, wt_10, wu_10, wa_10, wl_11, wt_11, wu_11, wa_11, wl_13, wt_13, wu_13, wa_13, wl_14, wt_14, wu_14, wa_14, wl_15, wt_15, wu_15, wa_15, wl_16, wt_16, wu_16, wa_16, wl_17, wt_17, wu_17, wa_17, wl_20, wt_20, wu_20, wa_20, wl_21, wt_21, wu_21, wa_21, wl_22, wt_22, wu_22, wa_22, wl_23, wt_23, wu_23, wa_23, wl_24, wt_24, wu_24, wa_24, wl_26, wt_26, wu_26, wa_26, wl_27, wt_27, wu_27, wa_27, wl_28, wt_28, wu_28, wa_28, we_1, we_3, we_10, we_14, we_15, we_16, we_17, we_18, we_20, we_21, we_22, we_24, we_25, we_26, we_27, we_28, we_30, we_31, we_32, wc_20, wc_21, wc_22, wc_24, wc_25, wc_26, wc_27, wc_3, wc_4, wc_7, wc_28, wc_32, ws_1, ws_2, ws_3, ws_4, ws_9, ws_10, ws_11, ws_14, ws_15, ws_16, ws_27, ws_17, ws_20, ws_28, kc_0, kc_1, kn_1, kc_2, kn_2, kc_3, kc_4, kc_5, kc_6, kc_7, kc_8, kc_9, kc_10, kc_12, kc_13, kc_14, kc_16, kc_17, kc_18, kc_19, kc_20, kc_21, kc_22, kc_24, kc_28, kc_30, kc_32, kc_37, kc_40, kc_41, kc_42, kc_43, kc_45, kc_48, kc_56, kc_57, kc_59, kc_60, kc_61, kc_64, kc_73, kc_78, kc_91, kc_95, kc_96, kc_97, kc_98, kc_99, kc_100, kc_112, kc_122, kc_125, kc_126, kc_150, kc_162, kc_163, kc_168, kc_186, kc_190, kc_200, kc_250, kc_255, kc_355, kc_356, kc_404, kc_405, kc_429, kc_573, kc_999, kc_1000, kc_1002, kc_1100, kc_1891, kc_2200, kc_4719, kc_4869, kc_4881, kc_5148, kc_9999, kn_9999, kc_10000, kc_12345, kc_19741, kc_25433, kc_65536, kc_320403, kc_628412, kc_629093, kc_660401, kc_679843, kc_918640, kc_979410, kc_1178088, kc_6232410, kc_24644941, kc_36238189, kc_38270444, kc_392531318, kc_425693491, kc_1103515245, kc_1342154595, kc_2147483648, kc_42328242873, kc_891704255789, kc_1722105685577, kc_1858726030364, ct_0, ct_1, ct_2, ct_3, ct_4, ct_5, cf_0, cf_1, cf_2, cf_3, cf_4, cf_5, w_ty6, w_ty7, m_sv, m_z0, m_hd, m_g0, m_gs, m_s0, m_ss, m_ap, m_an, forall_const, true_and, and_true, ne_eq, not_true_eq_false, not_false_eq_true, false_implies, true_implies, implies_true, eq_self, reduceCtorEq, Nat.reduceDiv, Nat.reduceMod, Int.reduceToNat, or_true, true_or, or_false, false_or, or_self, m_it, m_if, m_c1, m_01, m_02, m_03, m_04, m_10, m_12, m_13, m_14, m_20, m_21, m_23, m_24, m_30, m_31, m_32, m_34, m_40, m_41, m_42, m_43]
  have ba_w : 0 ≤ h4 182 7 ∧ h4 182 7 < 1002 := ⟨s2_w, by omega⟩
  refine ⟨fun z4 => ⟨ba_w, fun hs => ?_, fun hs => ⟨fun z => by omega, fun _ => ?_⟩⟩, fun z4 => ⟨fun _ => ⟨_, rfl, ht_fld p4_w.1 rfl, P, p4q, p4d, by omega, by omega⟩, fun z => by omega⟩⟩
  · obtain ⟨h5, y1, r5_w, at5_w⟩ := c210 h4 r4 z4
    obtain ⟨h6, w1_w, w2_w, w3_w, w4_w⟩ := c194 h5 59 r5_w.1 ⟨by decide, by decide⟩
    have d6_w := r5_w.pf (r5_w.1.pa w2_w) w2_w.pf
    refine ⟨[], h5, y1, [], h6, w1_w, d6_w.2.1, ?_⟩
    show 2 * ((N : Int) - h6 182 7).toNat + (if h6 182 8 = 0 then 1 else 0) < 2 * ((N : Int) - h4 182 7).toNat + (if h4 182 8 = 0 then 1 else 0)
    rw [if_pos z4]
    by_cases t : tkS h5 59
    · have e5_w := w3_w t
      have e7_w : h6 182 7 = h5 182 7 + 1 := by
        rw [e5_w]
        exact up_eq
      have n5_w := w2_w.2.2.2.2.2
      split <;> omega
    · obtain ⟨k1_w, k2, -⟩ := w4_w t
      rw [if_neg k2]
      omega
  · refine w_lp (fun en h' => ∃ k : Nat, en = [182, (k : Int)] ∧ k ≤ 95 ∧ HT g_fk a_g3 h' ∧ (∀ o i : Nat, (o = 188 → k ≤ i) → h' o i = h4 o i) ∧ ∀ i, i < k → h' 188 i = h4 188 (95 + i)) (fun en _ => 95 - (en.getD 1 0).toNat) ⟨0, rfl, by decide, p4q.1, fun _ _ _ => rfl, fun i hi_w => by omega⟩ ?_
    rintro en h5 ⟨k, rfl, k95, H5, o5_w, n5_w⟩
    refine ⟨by show 95 - ((k : Int)).toNat < K; omega, ?_⟩
    simp only [wf_4, wf_40, wf_5, wf_50, wf_6, wl_1, wt_1, wu_1, wa_1, wl_4, wt_4, wu_4, wa_4, wl_5, wt_5, wu_5, wa_5, wl_6, wt_6, wu_6, wa_6, wl_9, wt_9, wu_9, wa_9, wl_10, wt_10, wu_10, wa_10, wl_11, wt_11, wu_11, wa_11, wl_13, wt_13, wu_13, wa_13, wl_14, wt_14, wu_14, wa_14, wl_15, wt_15, wu_15, wa_15, wl_16, wt_16, wu_16, wa_16, wl_17, wt_17, wu_17, wa_17, wl_20, wt_20, wu_20, wa_20, wl_21, wt_21, wu_21, wa_21, wl_22, wt_22, wu_22, wa_22, wl_23, wt_23, wu_23, wa_23, wl_24, wt_24, wu_24, wa_24, wl_26, wt_26, wu_26, wa_26, wl_27, wt_27, wu_27, wa_27, wl_28, wt_28, wu_28, wa_28, we_1, we_3, we_10, we_14, we_15, we_16, we_17, we_18, we_20, we_21, we_22, we_24, we_25, we_26, we_27, we_28, we_30, we_31, we_32, wc_20, wc_21, wc_22, wc_24, wc_25, wc_26, wc_27, wc_3, wc_4, wc_7, wc_28, wc_32, ws_1, ws_2, ws_3, ws_4, ws_9, ws_10, ws_11, ws_14, ws_15, ws_16, ws_27, ws_17, ws_20, ws_28, kc_0, kc_1, kn_1, kc_2, kn_2, kc_3, kc_4, kc_5, kc_6, kc_7, kc_8, kc_9, kc_10, kc_12, kc_13, kc_14, kc_16, kc_17, kc_18, kc_19, kc_20, kc_21, kc_22, kc_24, kc_28, kc_30, kc_32, kc_37, kc_40, kc_41, kc_42, kc_43, kc_45, kc_48, kc_56, kc_57, kc_59, kc_60, kc_61, kc_64, kc_73, kc_78, kc_91, kc_95, kc_96, kc_97, kc_98, kc_99, kc_100, kc_112, kc_122, kc_125, kc_126, kc_150, kc_162, kc_163, kc_168, kc_186, kc_190, kc_200, kc_250, kc_255, kc_355, kc_356, kc_404, kc_405, kc_429, kc_573, kc_999, kc_1000, kc_1002, kc_1100, kc_1891, kc_2200, kc_4719, kc_4869, kc_4881, kc_5148, kc_9999, kn_9999, kc_10000, kc_12345, kc_19741, kc_25433, kc_65536, kc_320403, kc_628412, kc_629093, kc_660401, kc_679843, kc_918640, kc_979410, kc_1178088, kc_6232410, kc_24644941, kc_36238189, kc_38270444, kc_392531318, kc_425693491, kc_1103515245, kc_1342154595, kc_2147483648, kc_42328242873, kc_891704255789, kc_1722105685577, kc_1858726030364, ct_0, ct_1, ct_2, ct_3, ct_4, ct_5, cf_0, cf_1, cf_2, cf_3, cf_4, cf_5, w_ty6, w_ty7, m_sv, m_z0, m_hd, m_g0, m_gs, m_s0, m_ss, m_ap, m_an, forall_const, true_and, and_true, ne_eq, not_true_eq_false, not_false_eq_true, false_implies, true_implies, implies_true, eq_self, reduceCtorEq, Nat.reduceDiv, Nat.reduceMod, Int.reduceToNat, or_true, true_or, or_false, false_or, or_self, m_it, m_if, m_c1, m_01, m_02, m_03, m_04, m_10, m_12, m_13, m_14, m_20, m_21, m_23, m_24, m_30, m_31, m_32, m_34, m_40, m_41, m_42, m_43]
    refine ⟨fun hk => ?_, fun hk => ?_⟩
    · rw [jadd (x := 95) (y := (k : Int)) (by omega) (by omega), jinc (by omega) (by omega), show (95 + (k : Int)).toNat = 95 + k by omega, Int.toNat_natCast]
      refine ⟨⟨by omega, by omega⟩, ⟨by omega, by omega⟩, ⟨k + 1, rfl, by omega, ht_up H5 (by decide) (ht_int H5 (by decide) _), fun o i e => ?_, fun i hi_w => ?_⟩, by show 95 - ((k : Int) + 1).toNat < 95 - ((k : Int)).toNat; omega⟩
      · rw [up_ne (fun z => by have := e z.1; have := z.2; omega)]
        exact o5_w o i (fun z => by have := e z; omega)
      · by_cases e : i = k
        · rw [e, up_eq]
          exact o5_w 188 _ (fun _ => by omega)
        · rw [up_ne (fun z => e z.2)]
          exact n5_w i (by omega)
    · obtain rfl : k = 95 := by omega
      obtain ⟨m, hm_w⟩ : ∃ m : Nat, h4 182 12 = (m : Int) := ⟨(h4 182 12).toNat, by omega⟩
      refine w_lp (fun en h' => ∃ k : Nat, en = [182, (k : Int)] ∧ k ≤ m ∧ HT g_fk a_g3 h' ∧ (∀ o i : Nat, (o = 188 → 95 ≤ i) → (o = 189 → k ≤ i) → h' o i = h4 o i) ∧ (∀ i, i < 95 → h' 188 i = h4 188 (95 + i)) ∧ ∀ i, i < k → h' 189 i = h4 189 (1100 + i)) (fun en _ => m - (en.getD 1 0).toNat) ⟨0, rfl, by omega, H5, fun o i e _ => o5_w o i e, n5_w, fun i hi_w => by omega⟩ ?_
      rintro en h6 ⟨k, rfl, km, H6, o6, n6_w, m6_w⟩
      refine ⟨by show m - ((k : Int)).toNat < K; omega, ?_⟩
      simp only [wf_4, wf_40, wf_5, wf_50, wf_6, wl_1, wt_1, wu_1, wa_1, wl_4, wt_4, wu_4, wa_4, wl_5, wt_5, wu_5, wa_5, wl_6, wt_6, wu_6, wa_6, wl_9, wt_9, wu_9, wa_9, wl_10, wt_10, wu_10, wa_10, wl_11, wt_11, wu_11, wa_11, wl_13, wt_13, wu_13, wa_13, wl_14, wt_14, wu_14, wa_14, wl_15, wt_15, wu_15, wa_15, wl_16, wt_16, wu_16, wa_16, wl_17, wt_17, wu_17, wa_17, wl_20, wt_20, wu_20, wa_20, wl_21, wt_21, wu_21, wa_21, wl_22, wt_22, wu_22, wa_22, wl_23, wt_23, wu_23, wa_23, wl_24, wt_24, wu_24, wa_24, wl_26, wt_26, wu_26, wa_26, wl_27, wt_27, wu_27, wa_27, wl_28, wt_28, wu_28, wa_28, we_1, we_3, we_10, we_14, we_15, we_16, we_17, we_18, we_20, we_21, we_22, we_24, we_25, we_26, we_27, we_28, we_30, we_31, we_32, wc_20, wc_21, wc_22, wc_24, wc_25, wc_26, wc_27, wc_3, wc_4, wc_7, wc_28, wc_32, ws_1, ws_2, ws_3, ws_4, ws_9, ws_10, ws_11, ws_14, ws_15, ws_16, ws_27, ws_17, ws_20, ws_28, kc_0, kc_1, kn_1, kc_2, kn_2, kc_3, kc_4, kc_5, kc_6, kc_7, kc_8, kc_9, kc_10, kc_12, kc_13, kc_14, kc_16, kc_17, kc_18, kc_19, kc_20, kc_21, kc_22, kc_24, kc_28, kc_30, kc_32, kc_37, kc_40, kc_41, kc_42, kc_43, kc_45, kc_48, kc_56, kc_57, kc_59, kc_60, kc_61, kc_64, kc_73, kc_78, kc_91, kc_95, kc_96, kc_97, kc_98, kc_99, kc_100, kc_112, kc_122, kc_125, kc_126, kc_150, kc_162, kc_163, kc_168, kc_186, kc_190, kc_200, kc_250, kc_255, kc_355, kc_356, kc_404, kc_405, kc_429, kc_573, kc_999, kc_1000, kc_1002, kc_1100, kc_1891, kc_2200, kc_4719, kc_4869, kc_4881, kc_5148, kc_9999, kn_9999, kc_10000, kc_12345, kc_19741, kc_25433, kc_65536, kc_320403, kc_628412, kc_629093, kc_660401, kc_679843, kc_918640, kc_979410, kc_1178088, kc_6232410, kc_24644941, kc_36238189, kc_38270444, kc_392531318, kc_425693491, kc_1103515245, kc_1342154595, kc_2147483648, kc_42328242873, kc_891704255789, kc_1722105685577, kc_1858726030364, ct_0, ct_1, ct_2, ct_3, ct_4, ct_5, cf_0, cf_1, cf_2, cf_3, cf_4, cf_5, w_ty6, w_ty7, m_sv, m_z0, m_hd, m_g0, m_gs, m_s0, m_ss, m_ap, m_an, forall_const, true_and, and_true, ne_eq, not_true_eq_false, not_false_eq_true, false_implies, true_implies, implies_true, eq_self, reduceCtorEq, Nat.reduceDiv, Nat.reduceMod, Int.reduceToNat, or_true, true_or, or_false, false_or, or_self, m_it, m_if, m_c1, m_01, m_02, m_03, m_04, m_10, m_12, m_13, m_14, m_20, m_21, m_23, m_24, m_30, m_31, m_32, m_34, m_40, m_41, m_42, m_43]
      rw [o6 182 12 (fun z => absurd z (by decide)) (fun z => absurd z (by decide)), hm_w]
      refine ⟨fun hk => ?_, fun hk => ?_⟩
      · rw [jadd (x := 1100) (y := (k : Int)) (by omega) (by omega), jinc (by omega) (by omega), show (1100 + (k : Int)).toNat = 1100 + k by omega, Int.toNat_natCast]
        refine ⟨⟨by omega, by omega⟩, ⟨by omega, by omega⟩, ⟨k + 1, rfl, by omega, ht_up H6 (by decide) (ht_int H6 (by decide) _), fun o i e e2_w => ?_, fun i hi_w => ?_, fun i hi_w => ?_⟩, by show m - ((k : Int) + 1).toNat < m - ((k : Int)).toNat; omega⟩
        · rw [up_ne (fun z => by have := e2_w z.1; have := z.2; omega)]
          exact o6 o i e (fun z => by have := e2_w z; omega)
        · rw [up_ne (fun z => absurd z.1 (by decide))]
          exact n6_w i hi_w
        · by_cases e : i = k
          · rw [e, up_eq]
            exact o6 189 _ (fun z => absurd z (by decide)) (fun _ => by omega)
          · rw [up_ne (fun z => e z.2)]
            exact m6_w i (by omega)
      · obtain rfl : k = m := by omega
        refine w_lp (fun en h' => ∃ j : Nat, en = [182, (j : Int)] ∧ j ≤ 14 ∧ HT g_fk a_g3 h' ∧ (∀ o i : Nat, (o = 188 → 95 ≤ i) → (o = 189 → k ≤ i) → o ≠ 190 → h' o i = h4 o i) ∧ (∀ i, i < 95 → h' 188 i = h4 188 (95 + i)) ∧ ∀ i, i < k → h' 189 i = h4 189 (1100 + i)) (fun en _ => 14 - (en.getD 1 0).toNat) ⟨0, rfl, by omega, H6, fun o i e e2_w _ => o6 o i e e2_w, n6_w, m6_w⟩ ?_
        rintro en h7 ⟨j, rfl, j14_w, H7, o7, n7, m7_w⟩
        refine ⟨by show 14 - ((j : Int)).toNat < K; omega, ?_⟩
        simp only [wf_4, wf_40, wf_5, wf_50, wf_6, wl_1, wt_1, wu_1, wa_1, wl_4, wt_4, wu_4, wa_4, wl_5, wt_5, wu_5, wa_5, wl_6, wt_6, wu_6, wa_6, wl_9, wt_9, wu_9, wa_9, wl_10, wt_10, wu_10, wa_10, wl_11, wt_11, wu_11, wa_11, wl_13, wt_13, wu_13, wa_13, wl_14, wt_14, wu_14, wa_14, wl_15, wt_15, wu_15, wa_15, wl_16, wt_16, wu_16, wa_16, wl_17, wt_17, wu_17, wa_17, wl_20, wt_20, wu_20, wa_20, wl_21, wt_21, wu_21, wa_21, wl_22, wt_22, wu_22, wa_22, wl_23, wt_23, wu_23, wa_23, wl_24, wt_24, wu_24, wa_24, wl_26, wt_26, wu_26, wa_26, wl_27, wt_27, wu_27, wa_27, wl_28, wt_28, wu_28, wa_28, we_1, we_3, we_10, we_14, we_15, we_16, we_17, we_18, we_20, we_21, we_22, we_24, we_25, we_26, we_27, we_28, we_30, we_31, we_32, wc_20, wc_21, wc_22, wc_24, wc_25, wc_26, wc_27, wc_3, wc_4, wc_7, wc_28, wc_32, ws_1, ws_2, ws_3, ws_4, ws_9, ws_10, ws_11, ws_14, ws_15, ws_16, ws_27, ws_17, ws_20, ws_28, kc_0, kc_1, kn_1, kc_2, kn_2, kc_3, kc_4, kc_5, kc_6, kc_7, kc_8, kc_9, kc_10, kc_12, kc_13, kc_14, kc_16, kc_17, kc_18, kc_19, kc_20, kc_21, kc_22, kc_24, kc_28, kc_30, kc_32, kc_37, kc_40, kc_41, kc_42, kc_43, kc_45, kc_48, kc_56, kc_57, kc_59, kc_60, kc_61, kc_64, kc_73, kc_78, kc_91, kc_95, kc_96, kc_97, kc_98, kc_99, kc_100, kc_112, kc_122, kc_125, kc_126, kc_150, kc_162, kc_163, kc_168, kc_186, kc_190, kc_200, kc_250, kc_255, kc_355, kc_356, kc_404, kc_405, kc_429, kc_573, kc_999, kc_1000, kc_1002, kc_1100, kc_1891, kc_2200, kc_4719, kc_4869, kc_4881, kc_5148, kc_9999, kn_9999, kc_10000, kc_12345, kc_19741, kc_25433, kc_65536, kc_320403, kc_628412, kc_629093, kc_660401, kc_679843, kc_918640, kc_979410, kc_1178088, kc_6232410, kc_24644941, kc_36238189, kc_38270444, kc_392531318, kc_425693491, kc_1103515245, kc_1342154595, kc_2147483648, kc_42328242873, kc_891704255789, kc_1722105685577, kc_1858726030364, ct_0, ct_1, ct_2, ct_3, ct_4, ct_5, cf_0, cf_1, cf_2, cf_3, cf_4, cf_5, w_ty6, w_ty7, m_sv, m_z0, m_hd, m_g0, m_gs, m_s0, m_ss, m_ap, m_an, forall_const, true_and, and_true, ne_eq, not_true_eq_false, not_false_eq_true, false_implies, true_implies, implies_true, eq_self, reduceCtorEq, Nat.reduceDiv, Nat.reduceMod, Int.reduceToNat, or_true, true_or, or_false, false_or, or_self, m_it, m_if, m_c1, m_01, m_02, m_03, m_04, m_10, m_12, m_13, m_14, m_20, m_21, m_23, m_24, m_30, m_31, m_32, m_34, m_40, m_41, m_42, m_43]
        refine ⟨fun hj => ?_, fun hj => ?_⟩
        · rw [jadd (x := 14) (y := (j : Int)) (by omega) (by omega), jinc (by omega) (by omega), show (14 + (j : Int)).toNat = 14 + j by omega, Int.toNat_natCast]
          refine ⟨⟨by omega, by omega⟩, ⟨by omega, by omega⟩, ⟨j + 1, rfl, by omega, ht_upL H7 (by decide) (ht_long H7 (by decide) _), fun o i e e2_w e3_w => ?_, fun i hi_w => ?_, fun i hi_w => ?_⟩, by show 14 - ((j : Int) + 1).toNat < 14 - ((j : Int)).toNat; omega⟩
          · rw [up_ne (fun z => e3_w z.1)]
            exact o7 o i e e2_w e3_w
          · rw [up_ne (fun z => absurd z.1 (by decide))]
            exact n7 i hi_w
          · rw [up_ne (fun z => absurd z.1 (by decide))]
            exact m7_w i hi_w
        · have qn : QK (h4 188 98, h4 188 96) (r_T 0) JT h7 := new_QK p4q rfl H7 (fun i => o7 182 i (fun z => absurd z (by decide)) (fun z => absurd z (by decide)) (by decide)) n7 (fun i hi_w => o7 188 i (fun _ => hi_w) (fun z => absurd z (by decide)) (by decide)) (fun q i z1 z2 z3 z4 => o7 q i (fun z => absurd z z2) (fun z => absurd z z3) z4)
          have w6_w := r_98 p4q
          have w4_w := r_96 p4q
          have gg : GridOK (h7 188) 0 (h4 188 98) (h4 188 96) := by
            refine ⟨fun i hi_w => ?_, fun c hc_w => ?_⟩
            · rw [n7 _ (by omega), Nat.zero_add]
              exact p4d.1 i hi_w
            · rw [n7 _ (by omega), Nat.zero_add]
              exact p4d.2 c hc_w
          have ll : 0 ≤ h7 188 4 → CodeOK (h7 189) (h7 188 4).toNat := fun z => by
            have e4_w : h7 188 4 = h4 188 99 := n7 4 (by decide)
            rw [e4_w] at z ⊢
            rcases r4.2.2 with d | d | ⟨e0, l, e1_w, e2_w, e3_w, e5_w⟩
            · omega
            · exact absurd z4 d
            · refine ⟨l, fun i hi_w => ?_, ?_, by omega, e5_w⟩
              · rw [m7_w _ (by omega), show 1100 + ((h4 188 99).toNat + i) = 1100 + (h4 188 99).toNat + i by omega]
                exact e1_w i hi_w
              · rw [m7_w _ (by omega), show 1100 + ((h4 188 99).toNat + l.length) = 1100 + (h4 188 99).toNat + l.length by omega]
                exact e2_w
          obtain ⟨r, h8, y1, -, y2, y3, y4⟩ := c241 _ h7 qn gg ll
          refine ⟨r, h8, y1, 0, rfl, in_0, _, y2, ?_, ?_, ?_⟩
          · unfold DG
            rw [y3, o7 188 98 (fun _ => by decide) (fun z => absurd z (by decide)) (by decide), o7 188 96 (fun _ => by decide) (fun z => absurd z (by decide)) (by decide)]
            refine ⟨fun i hi_w => ?_, fun c hc_w => ?_⟩
            · rw [o7 188 _ (fun _ => by omega) (fun z => absurd z (by decide)) (by decide)]
              exact p4d.1 i hi_w
            · rw [o7 188 _ (fun _ => by omega) (fun z => absurd z (by decide)) (by decide)]
              exact p4d.2 c hc_w
          · rw [y4, o7 182 12 (fun z => absurd z (by decide)) (fun z => absurd z (by decide)) (by decide)]
            exact s6_w
          · rw [y4, o7 182 12 (fun z => absurd z (by decide)) (fun z => absurd z (by decide)) (by decide)]
            omega
end PARK
end
section
/-! ===== the reference's parser: put together ===== -/
section PARL
variable {P : Int × Int} {N : Nat} {g : Nat × Nat} {xs : Nat → Int} {L K n : Nat} {ck : Nat → List Nat} {cW : Nat → Nat → Int} {h : XH}
theorem p_210 (hK_w : 4294967300 ≤ K) : G210 P N g (evF xs L ck K cW g_M (n + 40)) := by
  have pb : ∀ m, PB P N g (evF xs L ck K cW g_M (m + 5)) := fun m => p_b hK_w
  obtain ⟨c191, c192, c193, c194, c195, c196, c197, c200, c201, c202, c203, c204, c205, c216⟩ := pb (n + 34)
  obtain ⟨d191_w, -, -, -, -, -, d197_w, d200_w, -, d202_w, d203_w, d204_w, d205_w, -⟩ := pb (n + 33)
  obtain ⟨e191, -, -, -, -, -, -, e200, -, -, e203, e204, -, -⟩ := pb (n + 32)
  have e : GE 217 25 0 P N g (evF xs L ck K cW g_M (n + 39)) := (g_E hK_w 5 (n + 4) 0 (by decide) (by decide)).2
  exact g_210 c191 c193 c200 g_207 (g_208 d191_w d203_w d204_w g_207) (g_209 d191_w g_207) (g_211 hK_w d191_w d200_w) (g_212 d197_w d200_w g_207 (g_208 e191 e203 e204 g_207) (g_211 hK_w e191 e200)) (g_213 d197_w d202_w d205_w g_207 (g_208 e191 e203 e204 g_207)) c216 e
theorem p_215 (hK2 : 20000000000 ≤ K) (hn : n + 40 < 99999) : G215 P N g (evF xs L ck K cW g_M (n + 40)) := by
  obtain ⟨c191, c192, c193, c194, c195, c196, c197, c200, c201, c202, c203, c204, c205, c216⟩ := p_b (P := P) (N := N) (g := g) (xs := xs) (L := L) (K := K) (n := n + 34) (ck := ck) (cW := cW) (by omega)
  exact g_215 c200 c205 (gv_of hK2 (by rw [rd_225]; omega) (by omega) rfl rr_225 (by decide +kernel) (by decide +kernel)) (gv_of hK2 (by rw [rd_227]; omega) (by omega) rfl rr_227 (by decide +kernel) (by decide +kernel)) (gv_of hK2 (by rw [rd_228]; omega) (by omega) rfl rr_228 (by decide +kernel) (by decide +kernel)) (gv_of hK2 (by rw [rd_233]; omega) (by omega) rp_233 rr_233 (by decide +kernel) (by decide +kernel)) (gv_of hK2 (by rw [rd_234]; omega) (by omega) rp_234 rr_234 (by decide +kernel) (by decide +kernel))
theorem p_214 (hK2 : 20000000000 ≤ K) (hn : n + 41 < 99999) (c190 : G190 P g (evF xs L ck K cW g_M (n + 40))) (hQ : QK P (r_T 0) (RJ P) h) (hD : DG h) (h0 : 0 ≤ h 182 12) (h1 : h 182 12 ≤ 1001) : ∃ r h', evF xs L ck K cW g_M (n + 41) 214 [182] ((a_g3, g), h) = some (1, r, ((a_g3, g), h')) ∧ B214 P r h' :=
  t_214 (n := n + 40) (by omega) c190 (fun N => (p_b (N := N) (n := n + 35) (by omega)).1) (fun N => (p_b (N := N) (n := n + 35) (by omega)).2.2.2.1) (fun N => (p_b (N := N) (n := n + 35) (by omega)).2.2.2.2.2.2.2.2.1) (fun N => p_215 hK2 (by omega)) hQ hD h0 h1
theorem p_206 (hK2 : 20000000000 ≤ K) (c190 : G190 P g (evF xs L ck K cW g_M (n + 40))) (hQ : QK P (r_T 0) (RJ P) h) (hD : DG h) (h0 : 0 ≤ h 182 12) (h1 : h 182 12 ≤ 1001) : ∃ r h', evF xs L ck K cW g_M (n + 41) 206 [182] ((a_g3, g), h) = some (1, r, ((a_g3, g), h')) ∧ B206 r h' :=
  t_206 (n := n + 40) (by omega) c190 (fun N => (p_b (N := N) (n := n + 35) (by omega)).2.2.2.1) (g_199 (n := n + 39) (by omega)) (fun N => p_210 (by omega)) (fun P'_w h q gg ll => t_241 (n := n + 37) (by omega) q gg ll) hQ hD h0 h1
end PARL
end
section
/-! ===== the reference's parser: what a sign is_w ===== -/
def GS (f : Nat) (p : Int → Prop) (g : Nat × Nat) (F : XP) : Prop := ∀ (h : XH) (a : Int), ∃ v, F f [a] ((a_g3, g), h) = some (1, [v], ((a_g3, g), h)) ∧ (v = 0 ∨ v = 1) ∧ (v ≠ 0 ↔ p a)
def G188 (g : Nat × Nat) (F : XP) : Prop := ∀ (h : XH) (a : Int), ∃ v, F 188 [a] ((a_g3, g), h) = some (1, [v], ((a_g3, g), h)) ∧ InI v
section PARM
variable {P : Int × Int} {N : Nat} {g : Nat × Nat} {xs : Nat → Int} {L K n : Nat} {ck : Nat → List Nat} {cW : Nat → Nat → Int} {h : XH}
theorem g_186 : GS 186 (fun a => 97 ≤ a ∧ a ≤ 122) g (evF xs L ck K cW g_M (n + 1)) := fun h a => by
  suffices hs : ∃ r h', evF xs L ck K cW g_M (n + 1) 186 [a] ((a_g3, g), h) = some (1, r, ((a_g3, g), h')) ∧ h' = h ∧ ∃ v, r = [v] ∧ (v = 0 ∨ v = 1) ∧ (v ≠ 0 ↔ 97 ≤ a ∧ a ≤ 122) by
    obtain ⟨r, h', e1_w, rfl, v, rfl, e2_w⟩ := hs
    exact ⟨v, e1_w, e2_w⟩
  refine tr_of gm_186 (B := fun r h' => h' = h ∧ ∃ v, r = [v] ∧ (v = 0 ∨ v = 1) ∧ (v ≠ 0 ↔ 97 ≤ a ∧ a ≤ 122)) ?_
  show wS _ _ K bb_186 [a] h _
  generalize evF xs L ck K cW g_M n = F
  unfold bb_186
  simp only [wf_4, wf_40, wf_5, wf_50, wf_6, wl_1, wt_1, wu_1, wa_1, wl_4, wt_4, wu_4, wa_4, wl_5, wt_5, wu_5, wa_5, wl_6, wt_6, wu_6, wa_6, wl_9, wt_9, wu_9, wa_9, wl_10, wt_10, wu_10, wa_10, wl_11, wt_11, wu_11, wa_11, wl_13, wt_13, wu_13, wa_13, wl_14, wt_14, wu_14, wa_14, wl_15, wt_15, wu_15, wa_15, wl_16, wt_16, wu_16, wa_16, wl_17, wt_17, wu_17, wa_17, wl_20, wt_20, wu_20, wa_20, wl_21, wt_21, wu_21, wa_21, wl_22, wt_22, wu_22, wa_22, wl_23, wt_23, wu_23, wa_23, wl_24, wt_24, wu_24, wa_24, wl_26, wt_26, wu_26, wa_26, wl_27, wt_27, wu_27, wa_27, wl_28, wt_28, wu_28, wa_28, we_1, we_3, we_10, we_14, we_15, we_16, we_17, we_18, we_20, we_21, we_22, we_24, we_25, we_26, we_27, we_28, we_30, we_31, we_32, wc_20, wc_21, wc_22, wc_24, wc_25, wc_26, wc_27, wc_3, wc_4, wc_7, wc_28, wc_32, ws_1, ws_2, ws_3, ws_4, ws_9, ws_10, ws_11, ws_14, ws_15, ws_16, ws_27, ws_17, ws_20, ws_28, kc_0, kc_1, kn_1, kc_2, kn_2, kc_3, kc_4, kc_5, kc_6, kc_7, kc_8, kc_9, kc_10, kc_12, kc_13, kc_14, kc_16, kc_17, kc_18, kc_19, kc_20, kc_21, kc_22, kc_24, kc_28, kc_30, kc_32, kc_37, kc_40, kc_41, kc_42, kc_43, kc_45, kc_48, kc_56, kc_57, kc_59, kc_60, kc_61, kc_64, kc_73, kc_78, kc_91, kc_95, kc_96, kc_97, kc_98, kc_99, kc_100, kc_112, kc_122, kc_125, kc_126, kc_150, kc_162, kc_163, kc_168, kc_186, kc_190, kc_200, kc_250, kc_255, kc_355, kc_356, kc_404, kc_405, kc_429, kc_573, kc_999, kc_1000, kc_1002, kc_1100, kc_1891, kc_2200, kc_4719, kc_4869, kc_4881, kc_5148, kc_9999, kn_9999, kc_10000, kc_12345, kc_19741, kc_25433, kc_65536, kc_320403, kc_628412, kc_629093, kc_660401, kc_679843, kc_918640, kc_979410, kc_1178088, kc_6232410, kc_24644941, kc_36238189, kc_38270444, kc_392531318, kc_425693491, kc_1103515245, kc_1342154595, kc_2147483648, kc_42328242873, kc_891704255789, kc_1722105685577, kc_1858726030364, ct_0, ct_1, ct_2, ct_3, ct_4, ct_5, cf_0, cf_1, cf_2, cf_3, cf_4, cf_5, w_ty6, w_ty7, m_sv, m_z0, m_hd, m_g0, m_gs, m_s0, m_ss, m_ap, m_an, forall_const, true_and, and_true, ne_eq, not_true_eq_false, not_false_eq_true, false_implies, true_implies, implies_true, eq_self, reduceCtorEq, Nat.reduceDiv, Nat.reduceMod, Int.reduceToNat, or_true, true_or, or_false, false_or, or_self, m_it, m_if, m_c1, m_01, m_02, m_03, m_04, m_10, m_12, m_13, m_14, m_20, m_21, m_23, m_24, m_30, m_31, m_32, m_34, m_40, m_41, m_42, m_43]
  exact ⟨fun k => ⟨fun k2 => ⟨1, rfl, Or.inr rfl, fun _ => ⟨k, k2⟩, fun _ => by decide⟩, fun k2 => ⟨0, rfl, Or.inl rfl, fun z => absurd rfl z, fun z => by omega⟩⟩, fun k => ⟨0, rfl, Or.inl rfl, fun z => absurd rfl z, fun z => by omega⟩⟩
theorem g_187 : GS 187 (fun a => 48 ≤ a ∧ a ≤ 57) g (evF xs L ck K cW g_M (n + 1)) := fun h a => by
  suffices hs : ∃ r h', evF xs L ck K cW g_M (n + 1) 187 [a] ((a_g3, g), h) = some (1, r, ((a_g3, g), h')) ∧ h' = h ∧ ∃ v, r = [v] ∧ (v = 0 ∨ v = 1) ∧ (v ≠ 0 ↔ 48 ≤ a ∧ a ≤ 57) by
    obtain ⟨r, h', e1_w, rfl, v, rfl, e2_w⟩ := hs
    exact ⟨v, e1_w, e2_w⟩
  refine tr_of gm_187 (B := fun r h' => h' = h ∧ ∃ v, r = [v] ∧ (v = 0 ∨ v = 1) ∧ (v ≠ 0 ↔ 48 ≤ a ∧ a ≤ 57)) ?_
  show wS _ _ K bb_187 [a] h _
  generalize evF xs L ck K cW g_M n = F
  unfold bb_187
  simp only [wf_4, wf_40, wf_5, wf_50, wf_6, wl_1, wt_1, wu_1, wa_1, wl_4, wt_4, wu_4, wa_4, wl_5, wt_5, wu_5, wa_5, wl_6, wt_6, wu_6, wa_6, wl_9, wt_9, wu_9, wa_9, wl_10, wt_10, wu_10, wa_10, wl_11, wt_11, wu_11, wa_11, wl_13, wt_13, wu_13, wa_13, wl_14, wt_14, wu_14, wa_14, wl_15, wt_15, wu_15, wa_15, wl_16, wt_16, wu_16, wa_16, wl_17, wt_17, wu_17, wa_17, wl_20, wt_20, wu_20, wa_20, wl_21, wt_21, wu_21, wa_21, wl_22, wt_22, wu_22, wa_22, wl_23, wt_23, wu_23, wa_23, wl_24, wt_24, wu_24, wa_24, wl_26, wt_26, wu_26, wa_26, wl_27, wt_27, wu_27, wa_27, wl_28, wt_28, wu_28, wa_28, we_1, we_3, we_10, we_14, we_15, we_16, we_17, we_18, we_20, we_21, we_22, we_24, we_25, we_26, we_27, we_28, we_30, we_31, we_32, wc_20, wc_21, wc_22, wc_24, wc_25, wc_26, wc_27, wc_3, wc_4, wc_7, wc_28, wc_32, ws_1, ws_2, ws_3, ws_4, ws_9, ws_10, ws_11, ws_14, ws_15, ws_16, ws_27, ws_17, ws_20, ws_28, kc_0, kc_1, kn_1, kc_2, kn_2, kc_3, kc_4, kc_5, kc_6, kc_7, kc_8, kc_9, kc_10, kc_12, kc_13, kc_14, kc_16, kc_17, kc_18, kc_19, kc_20, kc_21, kc_22, kc_24, kc_28, kc_30, kc_32, kc_37, kc_40, kc_41, kc_42, kc_43, kc_45, kc_48, kc_56, kc_57, kc_59, kc_60, kc_61, kc_64, kc_73, kc_78, kc_91, kc_95, kc_96, kc_97, kc_98, kc_99, kc_100, kc_112, kc_122, kc_125, kc_126, kc_150, kc_162, kc_163, kc_168, kc_186, kc_190, kc_200, kc_250, kc_255, kc_355, kc_356, kc_404, kc_405, kc_429, kc_573, kc_999, kc_1000, kc_1002, kc_1100, kc_1891, kc_2200, kc_4719, kc_4869, kc_4881, kc_5148, kc_9999, kn_9999, kc_10000, kc_12345, kc_19741, kc_25433, kc_65536, kc_320403, kc_628412, kc_629093, kc_660401, kc_679843, kc_918640, kc_979410, kc_1178088, kc_6232410, kc_24644941, kc_36238189, kc_38270444, kc_392531318, kc_425693491, kc_1103515245, kc_1342154595, kc_2147483648, kc_42328242873, kc_891704255789, kc_1722105685577, kc_1858726030364, ct_0, ct_1, ct_2, ct_3, ct_4, ct_5, cf_0, cf_1, cf_2, cf_3, cf_4, cf_5, w_ty6, w_ty7, m_sv, m_z0, m_hd, m_g0, m_gs, m_s0, m_ss, m_ap, m_an, forall_const, true_and, and_true, ne_eq, not_true_eq_false, not_false_eq_true, false_implies, true_implies, implies_true, eq_self, reduceCtorEq, Nat.reduceDiv, Nat.reduceMod, Int.reduceToNat, or_true, true_or, or_false, false_or, or_self, m_it, m_if, m_c1, m_01, m_02, m_03, m_04, m_10, m_12, m_13, m_14, m_20, m_21, m_23, m_24, m_30, m_31, m_32, m_34, m_40, m_41, m_42, m_43]
  exact ⟨fun k => ⟨fun k2 => ⟨1, rfl, Or.inr rfl, fun _ => ⟨k, k2⟩, fun _ => by decide⟩, fun k2 => ⟨0, rfl, Or.inl rfl, fun z => absurd rfl z, fun z => by omega⟩⟩, fun k => ⟨0, rfl, Or.inl rfl, fun z => absurd rfl z, fun z => by omega⟩⟩
theorem g_188 (c186 : GS 186 (fun a => 97 ≤ a ∧ a ≤ 122) g (evF xs L ck K cW g_M n)) : G188 g (evF xs L ck K cW g_M (n + 1)) := fun h a => by
  suffices hs : ∃ r h', evF xs L ck K cW g_M (n + 1) 188 [a] ((a_g3, g), h) = some (1, r, ((a_g3, g), h')) ∧ h' = h ∧ ∃ v, r = [v] ∧ InI v by
    obtain ⟨r, h', e1_w, rfl, v, rfl, e2_w⟩ := hs
    exact ⟨v, e1_w, e2_w⟩
  refine tr_of gm_188 (B := fun r h' => h' = h ∧ ∃ v, r = [v] ∧ InI v) ?_
  show wS _ _ K bb_188 [a] h _
  generalize evF xs L ck K cW g_M n = F at c186 ⊢
  unfold bb_188
  simp only [wf_4, wf_40, wf_5, wf_50, wf_6, wl_1, wt_1, wu_1, wa_1, wl_4, wt_4, wu_4, wa_4, wl_5, wt_5, wu_5, wa_5, wl_6, wt_6, wu_6, wa_6, wl_9, wt_9, wu_9, wa_9, wl_10, wt_10, wu_10, wa_10, wl_11, wt_11, wu_11, wa_11, wl_13, wt_13, wu_13, wa_13, wl_14, wt_14, wu_14, wa_14, wl_15, wt_15, wu_15, wa_15, wl_16, wt_16, wu_16, wa_16, wl_17, wt_17, wu_17, wa_17, wl_20, wt_20, wu_20, wa_20, wl_21, wt_21, wu_21, wa_21, wl_22, wt_22, wu_22, wa_22, wl_23, wt_23, wu_23, wa_23, wl_24, wt_24, wu_24, wa_24, wl_26, wt_26, wu_26, wa_26, wl_27, wt_27, wu_27, wa_27, wl_28, wt_28, wu_28, wa_28, we_1, we_3, we_10, we_14, we_15, we_16, we_17, we_18, we_20, we_21, we_22, we_24, we_25, we_26, we_27, we_28, we_30, we_31, we_32, wc_20, wc_21, wc_22, wc_24, wc_25, wc_26, wc_27, wc_3, wc_4, wc_7, wc_28, wc_32, ws_1, ws_2, ws_3, ws_4, ws_9, ws_10, ws_11, ws_14, ws_15, ws_16, ws_27, ws_17, ws_20, ws_28, kc_0, kc_1, kn_1, kc_2, kn_2, kc_3, kc_4, kc_5, kc_6, kc_7, kc_8, kc_9, kc_10, kc_12, kc_13, kc_14, kc_16, kc_17, kc_18, kc_19, kc_20, kc_21, kc_22, kc_24, kc_28, kc_30, kc_32, kc_37, kc_40, kc_41, kc_42, kc_43, kc_45, kc_48, kc_56, kc_57, kc_59, kc_60, kc_61, kc_64, kc_73, kc_78, kc_91, kc_95, kc_96, kc_97, kc_98, kc_99, kc_100, kc_112, kc_122, kc_125, kc_126, kc_150, kc_162, kc_163, kc_168, kc_186, kc_190, kc_200, kc_250, kc_255, kc_355, kc_356, kc_404, kc_405, kc_429, kc_573, kc_999, kc_1000, kc_1002, kc_1100, kc_1891, kc_2200, kc_4719, kc_4869, kc_4881, kc_5148, kc_9999, kn_9999, kc_10000, kc_12345, kc_19741, kc_25433, kc_65536, kc_320403, kc_628412, kc_629093, kc_660401, kc_679843, kc_918640, kc_979410, kc_1178088, kc_6232410, kc_24644941, kc_36238189, kc_38270444, kc_392531318, kc_425693491, kc_1103515245, kc_1342154595, kc_2147483648, kc_42328242873, kc_891704255789, kc_1722105685577, kc_1858726030364, ct_0, ct_1, ct_2, ct_3, ct_4, ct_5, cf_0, cf_1, cf_2, cf_3, cf_4, cf_5, w_ty6, w_ty7, m_sv, m_z0, m_hd, m_g0, m_gs, m_s0, m_ss, m_ap, m_an, forall_const, true_and, and_true, ne_eq, not_true_eq_false, not_false_eq_true, false_implies, true_implies, implies_true, eq_self, reduceCtorEq, Nat.reduceDiv, Nat.reduceMod, Int.reduceToNat, or_true, true_or, or_false, false_or, or_self, m_it, m_if, m_c1, m_01, m_02, m_03, m_04, m_10, m_12, m_13, m_14, m_20, m_21, m_23, m_24, m_30, m_31, m_32, m_34, m_40, m_41, m_42, m_43]
  obtain ⟨v, e1_w, -⟩ := c186 h a
  exact ⟨[v], h, e1_w, fun _ => ⟨rfl, _, rfl, iop_in 1 _ _⟩, fun _ => ⟨rfl, _, rfl, iop_in 1 _ _⟩⟩
theorem g_189 : GS 189 (fun a => a = 40 ∨ a = 41 ∨ a = 59 ∨ a = 61 ∨ a = 60 ∨ a = 43 ∨ a = 45 ∨ a = 42) g (evF xs L ck K cW g_M (n + 1)) := fun h a => by
  suffices hs : ∃ r h', evF xs L ck K cW g_M (n + 1) 189 [a] ((a_g3, g), h) = some (1, r, ((a_g3, g), h')) ∧ h' = h ∧ ∃ v, r = [v] ∧ (v = 0 ∨ v = 1) ∧ (v ≠ 0 ↔ (a = 40 ∨ a = 41 ∨ a = 59 ∨ a = 61 ∨ a = 60 ∨ a = 43 ∨ a = 45 ∨ a = 42)) by
    obtain ⟨r, h', e1_w, rfl, v, rfl, e2_w⟩ := hs
    exact ⟨v, e1_w, e2_w⟩
  refine tr_of gm_189 (B := fun r h' => h' = h ∧ ∃ v, r = [v] ∧ (v = 0 ∨ v = 1) ∧ (v ≠ 0 ↔ (a = 40 ∨ a = 41 ∨ a = 59 ∨ a = 61 ∨ a = 60 ∨ a = 43 ∨ a = 45 ∨ a = 42))) ?_
  show wS _ _ K bb_189 [a] h _
  generalize evF xs L ck K cW g_M n = F
  unfold bb_189
  simp only [wf_4, wf_40, wf_5, wf_50, wf_6, wl_1, wt_1, wu_1, wa_1, wl_4, wt_4, wu_4, wa_4, wl_5, wt_5, wu_5, wa_5, wl_6, wt_6, wu_6, wa_6, wl_9, wt_9, wu_9, wa_9, wl_10, wt_10, wu_10, wa_10, wl_11, wt_11, wu_11, wa_11, wl_13, wt_13, wu_13, wa_13, wl_14, wt_14, wu_14, wa_14, wl_15, wt_15, wu_15, wa_15, wl_16, wt_16, wu_16, wa_16, wl_17, wt_17, wu_17, wa_17, wl_20, wt_20, wu_20, wa_20, wl_21, wt_21, wu_21, wa_21, wl_22, wt_22, wu_22, wa_22, wl_23, wt_23, wu_23, wa_23, wl_24, wt_24, wu_24, wa_24, wl_26, wt_26, wu_26, wa_26, wl_27, wt_27, wu_27, wa_27, wl_28, wt_28, wu_28, wa_28, we_1, we_3, we_10, we_14, we_15, we_16, we_17, we_18, we_20, we_21, we_22, we_24, we_25, we_26, we_27, we_28, we_30, we_31, we_32, wc_20, wc_21, wc_22, wc_24, wc_25, wc_26, wc_27, wc_3, wc_4, wc_7, wc_28, wc_32, ws_1, ws_2, ws_3, ws_4, ws_9, ws_10, ws_11, ws_14, ws_15, ws_16, ws_27, ws_17, ws_20, ws_28, kc_0, kc_1, kn_1, kc_2, kn_2, kc_3, kc_4, kc_5, kc_6, kc_7, kc_8, kc_9, kc_10, kc_12, kc_13, kc_14, kc_16, kc_17, kc_18, kc_19, kc_20, kc_21, kc_22, kc_24, kc_28, kc_30, kc_32, kc_37, kc_40, kc_41, kc_42, kc_43, kc_45, kc_48, kc_56, kc_57, kc_59, kc_60, kc_61, kc_64, kc_73, kc_78, kc_91, kc_95, kc_96, kc_97, kc_98, kc_99, kc_100, kc_112, kc_122, kc_125, kc_126, kc_150, kc_162, kc_163, kc_168, kc_186, kc_190, kc_200, kc_250, kc_255, kc_355, kc_356, kc_404, kc_405, kc_429, kc_573, kc_999, kc_1000, kc_1002, kc_1100, kc_1891, kc_2200, kc_4719, kc_4869, kc_4881, kc_5148, kc_9999, kn_9999, kc_10000, kc_12345, kc_19741, kc_25433, kc_65536, kc_320403, kc_628412, kc_629093, kc_660401, kc_679843, kc_918640, kc_979410, kc_1178088, kc_6232410, kc_24644941, kc_36238189, kc_38270444, kc_392531318, kc_425693491, kc_1103515245, kc_1342154595, kc_2147483648, kc_42328242873, kc_891704255789, kc_1722105685577, kc_1858726030364, ct_0, ct_1, ct_2, ct_3, ct_4, ct_5, cf_0, cf_1, cf_2, cf_3, cf_4, cf_5, w_ty6, w_ty7, m_sv, m_z0, m_hd, m_g0, m_gs, m_s0, m_ss, m_ap, m_an, forall_const, true_and, and_true, ne_eq, not_true_eq_false, not_false_eq_true, false_implies, true_implies, implies_true, eq_self, reduceCtorEq, Nat.reduceDiv, Nat.reduceMod, Int.reduceToNat, or_true, true_or, or_false, false_or, or_self, m_it, m_if, m_c1, m_01, m_02, m_03, m_04, m_10, m_12, m_13, m_14, m_20, m_21, m_23, m_24, m_30, m_31, m_32, m_34, m_40, m_41, m_42, m_43]
  have one : (a = 40 ∨ a = 41 ∨ a = 59 ∨ a = 61 ∨ a = 60 ∨ a = 43 ∨ a = 45 ∨ a = 42) → ∃ v, [(1 : Int)] = [v] ∧ (v = 0 ∨ v = 1) ∧ (¬v = 0 ↔ (a = 40 ∨ a = 41 ∨ a = 59 ∨ a = 61 ∨ a = 60 ∨ a = 43 ∨ a = 45 ∨ a = 42)) := fun k => ⟨1, rfl, Or.inr rfl, fun _ => k, fun _ => by decide⟩
  refine ⟨fun k => one (by omega), fun k1_w => ⟨fun k => one (by omega), fun k2 => ⟨fun k => one (by omega), fun k3 => ⟨fun k => one (by omega), fun k4 => ⟨fun k => one (by omega), fun k5 => ⟨fun k => one (by omega), fun k6 => ⟨fun k => one (by omega), fun k7 => ⟨fun k => one (by omega), fun k8 => ⟨0, rfl, Or.inl rfl, fun z => absurd rfl z, fun z => by omega⟩⟩⟩⟩⟩⟩⟩⟩⟩
end PARM
end
section
/-! ===== the reference's parser: what was fed is_w cut_w ===== -/
def VN (m : Nat) (h : XH) : Prop := ∀ i : Nat, i < m → h 184 i = 2 → 0 ≤ h 186 i ∧ h 186 i ≤ 9999
def B190 (P : Int × Int) (h : XH) (r : List Int) (h' : XH) : Prop := r = [] ∧ ∃ N, PK P N h' ∧ h' 182 7 = 0 ∧ ∀ o k : Nat, (o = 182 → k ≠ 2 ∧ k ≠ 3 ∧ k ≠ 7 ∧ k ≠ 8) → (o ≠ 184 ∧ o ≠ 185 ∧ o ≠ 186) → h' o k = h o k
section PARN
variable {P : Int × Int} {N : Nat} {g : Nat × Nat} {xs : Nat → Int} {L K n : Nat} {ck : Nat → List Nat} {cW : Nat → Nat → Int} {h : XH}
/-- a cell_w of what was cut_w -/
theorem tw_QK (hQ : QK P (r_T 0) (RJ P) h) {q i : Nat} {v : Int} (hH : HT g_fk a_g3 (j_up h q i v)) (h0 : q = 184 ∨ q = 185 ∨ q = 186) (hv : ∀ r ∈ (r_A q).2.2, r.1 ≤ i → i < r.2.1 → IV P r.2.2 v) : QK P (r_T 0) (RJ P) (j_up h q i v) := by
  have o : ∀ p : Nat, p ≠ 184 → p ≠ 185 → p ≠ 186 → j_up h q i v p = h p := fun p z1 z2 z3 => funext fun k => up_ne (fun z => by omega)
  refine ⟨hH, fun k => ?_, fun q' hq' => ?_, ?_⟩
  · rw [o 182 (by decide) (by decide) (by decide)]
    exact hQ.2.1 k
  · by_cases e : q' = q
    · subst e
      intro r hr a b k1_w k2 k3
      have eb : (qA (r_T 0) q').2.1 = 0 := by
        rcases h0 with rfl | rfl | rfl <;> rfl
      have old_w := hQ.2.2.1 q' hq' r hr a b k1_w k2 k3
      rw [eb, Nat.zero_mul, Nat.zero_add] at old_w ⊢
      by_cases e2_w : a = i
      · subst e2_w
        rw [up_eq]
        exact hv r hr k1_w k2
      · rw [up_ne (fun z => e2_w z.2)]
        exact old_w
    · have e2_w : j_up h q i v q' = h q' := funext fun i => up_ne (fun z => e z.1)
      rw [e2_w]
      exact hQ.2.2.1 q' hq'
  · unfold RJ
    rw [o 188 (by decide) (by decide) (by decide), o 189 (by decide) (by decide) (by decide), o 191 (by decide) (by decide) (by decide)]
    exact hQ.2.2.2
theorem tw_4 (hQ : QK P (r_T 0) (RJ P) h) {i : Nat} {v : Int} (h0 : 0 ≤ v) (h4 : v ≤ 4) : QK P (r_T 0) (RJ P) (j_up h 184 i v) := by
  have hin : InI v := ⟨by omega, by omega⟩
  exact tw_QK hQ (ht_up hQ.1 (by decide) hin) (Or.inl rfl) (fun r hr _ _ => by
    have hr2 : r ∈ [(0, 1002, ((1, 0, 4) : IT))] := hr
    rw [List.mem_singleton] at hr2
    subst hr2
    exact ⟨h0, h4, hin⟩)
theorem tw_5 (hQ : QK P (r_T 0) (RJ P) h) {i : Nat} {v : Int} (h0 : 0 ≤ v) (h4 : v ≤ 1000) : QK P (r_T 0) (RJ P) (j_up h 185 i v) := by
  have hin : InI v := ⟨by omega, by omega⟩
  exact tw_QK hQ (ht_up hQ.1 (by decide) hin) (Or.inr (Or.inl rfl)) (fun r hr _ _ => by
    have hr2 : r ∈ [(0, 1002, ((1, 0, 1000) : IT))] := hr
    rw [List.mem_singleton] at hr2
    subst hr2
    exact ⟨h0, h4, hin⟩)
theorem tw_6 (hQ : QK P (r_T 0) (RJ P) h) {i : Nat} {v : Int} (hin : InL v) : QK P (r_T 0) (RJ P) (j_up h 186 i v) :=
  tw_QK hQ (ht_upL hQ.1 (by decide) hin) (Or.inr (Or.inr rfl)) (fun r hr _ _ => by
    have hr2 : r ∈ [(0, 1002, ((2, (-9223372036854775808), 9223372036854775807) : IT))] := hr
    rw [List.mem_singleton] at hr2
    subst hr2
    exact IV.topL hin)
end PARN
section PARO
variable {P : Int × Int} {N : Nat} {g : Nat × Nat} {xs : Nat → Int} {L K n : Nat} {ck : Nat → List Nat} {cW : Nat → Nat → Int} {h : XH}
theorem g_190 (hK_w : 4294967300 ≤ K) (c186 : GS 186 (fun a => 97 ≤ a ∧ a ≤ 122) g (evF xs L ck K cW g_M n)) (c187 : GS 187 (fun a => 48 ≤ a ∧ a ≤ 57) g (evF xs L ck K cW g_M n)) (c188 : G188 g (evF xs L ck K cW g_M n)) (c189 : GS 189 (fun a => a = 40 ∨ a = 41 ∨ a = 59 ∨ a = 61 ∨ a = 60 ∨ a = 43 ∨ a = 45 ∨ a = 42) g (evF xs L ck K cW g_M n)) : G190 P g (evF xs L ck K cW g_M (n + 1)) := fun h hQ hD h0 h1 => by
  suffices hs : ∃ r h', evF xs L ck K cW g_M (n + 1) 190 [182] ((a_g3, g), h) = some (1, r, ((a_g3, g), h')) ∧ B190 P h r h' by
    obtain ⟨r, h', e1_w, rfl, N, e2_w⟩ := hs
    exact ⟨N, h', e1_w, e2_w⟩
  refine tr_of gm_190 ?_
  show wS _ _ K bb_190 [182, 0, 0, 0, 0, 0, 0] h _
  generalize evF xs L ck K cW g_M n = F at c186 c187 c188 c189 ⊢
  unfold bb_190
  simp only [wf_4, wf_40, wf_5, wf_50, wf_6, wl_1, wt_1, wu_1, wa_1, wl_4, wt_4, wu_4, wa_4, wl_5, wt_5, wu_5, wa_5, wl_6, wt_6, wu_6, wa_6, wl_9, wt_9, wu_9, wa_9, wl_10, wt_10, wu_10, wa_10, wl_11, wt_11, wu_11, wa_11, wl_13, wt_13, wu_13, wa_13, wl_14, wt_14, wu_14, wa_14, wl_15, wt_15, wu_15, wa_15, wl_16, wt_16, wu_16, wa_16, wl_17, wt_17, wu_17, wa_17, wl_20, wt_20, wu_20, wa_20, wl_21, wt_21, wu_21, wa_21, wl_22, wt_22, wu_22, wa_22, wl_23, wt_23, wu_23, wa_23, wl_24, wt_24, wu_24, wa_24, wl_26, wt_26, wu_26, wa_26, wl_27, wt_27, wu_27, wa_27, wl_28, wt_28, wu_28, wa_28, we_1, we_3, we_10, we_14, we_15, we_16, we_17, we_18, we_20, we_21, we_22, we_24, we_25, we_26, we_27, we_28, we_30, we_31, we_32, wc_20, wc_21, wc_22, wc_24, wc_25, wc_26, wc_27, wc_3, wc_4, wc_7, wc_28, wc_32, ws_1, ws_2, ws_3, ws_4, ws_9, ws_10, ws_11, ws_14, ws_15, ws_16, ws_27, ws_17, ws_20, ws_28, kc_0, kc_1, kn_1, kc_2, kn_2, kc_3, kc_4, kc_5, kc_6, kc_7, kc_8, kc_9, kc_10, kc_12, kc_13, kc_14, kc_16, kc_17, kc_18, kc_19, kc_20, kc_21, kc_22, kc_24, kc_28, kc_30, kc_32, kc_37, kc_40, kc_41, kc_42, kc_43, kc_45, kc_48, kc_56, kc_57, kc_59, kc_60, kc_61, kc_64, kc_73, kc_78, kc_91, kc_95, kc_96, kc_97, kc_98, kc_99, kc_100, kc_112, kc_122, kc_125, kc_126, kc_150, kc_162, kc_163, kc_168, kc_186, kc_190, kc_200, kc_250, kc_255, kc_355, kc_356, kc_404, kc_405, kc_429, kc_573, kc_999, kc_1000, kc_1002, kc_1100, kc_1891, kc_2200, kc_4719, kc_4869, kc_4881, kc_5148, kc_9999, kn_9999, kc_10000, kc_12345, kc_19741, kc_25433, kc_65536, kc_320403, kc_628412, kc_629093, kc_660401, kc_679843, kc_918640, kc_979410, kc_1178088, kc_6232410, kc_24644941, kc_36238189, kc_38270444, kc_392531318, kc_425693491, kc_1103515245, kc_1342154595, kc_2147483648, kc_42328242873, kc_891704255789, kc_1722105685577, kc_1858726030364, ct_0, ct_1, ct_2, ct_3, ct_4, ct_5, cf_0, cf_1, cf_2, cf_3, cf_4, cf_5, w_ty6, w_ty7, m_sv, m_z0, m_hd, m_g0, m_gs, m_s0, m_ss, m_ap, m_an, forall_const, true_and, and_true, ne_eq, not_true_eq_false, not_false_eq_true, false_implies, true_implies, implies_true, eq_self, reduceCtorEq, Nat.reduceDiv, Nat.reduceMod, Int.reduceToNat, or_true, true_or, or_false, false_or, or_self, m_it, m_if, m_c1, m_01, m_02, m_03, m_04, m_10, m_12, m_13, m_14, m_20, m_21, m_23, m_24, m_30, m_31, m_32, m_34, m_40, m_41, m_42, m_43]
  have r2 : IV P (1, 0, 1000) (h 182 2) := hQ.2.1 2
  obtain ⟨S0_w, S1, S2⟩ := r2
  obtain ⟨S, hS_w⟩ : ∃ S : Nat, h 182 2 = (S : Int) := ⟨(h 182 2).toNat, by omega⟩
  have qa : QK P (r_T 0) (RJ P) (j_up h 182 3 (h 182 2)) := (fd_QK hQ rj_js (k := 3) (Or.inl rfl) ⟨S0_w, S1, S2⟩).1
  have qb : QK P (r_T 0) (RJ P) (j_up (j_up h 182 3 (h 182 2)) 182 2 0) := (fd_QK qa rj_js (k := 2) (Or.inl rfl) ⟨by decide, by decide, in_0⟩).1
  have fb : ∀ o k : Nat, (o = 182 → k ≠ 2 ∧ k ≠ 3 ∧ k ≠ 7 ∧ k ≠ 8) → j_up (j_up h 182 3 (h 182 2)) 182 2 0 o k = h o k := fun o k z => by
    rw [up_ne (fun y => (z y.1).1 y.2), up_ne (fun y => (z y.1).2.1 y.2)]
  have sb_w : j_up (j_up h 182 3 (h 182 2)) 182 2 0 182 3 = (S : Int) := by
    rw [up_ne (fun y => absurd y.2 (by decide)), up_eq, hS_w]
  generalize j_up (j_up h 182 3 (h 182 2)) 182 2 0 = H at qb fb sb_w ⊢
  refine w_lp (fun en h' => ∃ (m k : Nat) (c f v w : Int), en = [182, (m : Int), (k : Int), c, f, v, w] ∧ m ≤ k ∧ k ≤ S ∧ QK P (r_T 0) (RJ P) h' ∧ (∀ o i : Nat, (o ≠ 184 ∧ o ≠ 185 ∧ o ≠ 186) → h' o i = H o i) ∧ VN m h') (fun en _ => S - (en.getD 2 0).toNat) ⟨0, 0, 0, 0, 0, 0, rfl, by decide, by omega, qb, fun _ _ _ => rfl, fun i hi_w => by omega⟩ ?_
  rintro en h2 ⟨m, k, c, f, v, w, rfl, mk_w, kS, q2_w, f2_w, v2⟩
  refine ⟨?_, ?_⟩
  · show S - ((k : Int)).toNat < K
    omega
  simp only [wf_4, wf_40, wf_5, wf_50, wf_6, wl_1, wt_1, wu_1, wa_1, wl_4, wt_4, wu_4, wa_4, wl_5, wt_5, wu_5, wa_5, wl_6, wt_6, wu_6, wa_6, wl_9, wt_9, wu_9, wa_9, wl_10, wt_10, wu_10, wa_10, wl_11, wt_11, wu_11, wa_11, wl_13, wt_13, wu_13, wa_13, wl_14, wt_14, wu_14, wa_14, wl_15, wt_15, wu_15, wa_15, wl_16, wt_16, wu_16, wa_16, wl_17, wt_17, wu_17, wa_17, wl_20, wt_20, wu_20, wa_20, wl_21, wt_21, wu_21, wa_21, wl_22, wt_22, wu_22, wa_22, wl_23, wt_23, wu_23, wa_23, wl_24, wt_24, wu_24, wa_24, wl_26, wt_26, wu_26, wa_26, wl_27, wt_27, wu_27, wa_27, wl_28, wt_28, wu_28, wa_28, we_1, we_3, we_10, we_14, we_15, we_16, we_17, we_18, we_20, we_21, we_22, we_24, we_25, we_26, we_27, we_28, we_30, we_31, we_32, wc_20, wc_21, wc_22, wc_24, wc_25, wc_26, wc_27, wc_3, wc_4, wc_7, wc_28, wc_32, ws_1, ws_2, ws_3, ws_4, ws_9, ws_10, ws_11, ws_14, ws_15, ws_16, ws_27, ws_17, ws_20, ws_28, kc_0, kc_1, kn_1, kc_2, kn_2, kc_3, kc_4, kc_5, kc_6, kc_7, kc_8, kc_9, kc_10, kc_12, kc_13, kc_14, kc_16, kc_17, kc_18, kc_19, kc_20, kc_21, kc_22, kc_24, kc_28, kc_30, kc_32, kc_37, kc_40, kc_41, kc_42, kc_43, kc_45, kc_48, kc_56, kc_57, kc_59, kc_60, kc_61, kc_64, kc_73, kc_78, kc_91, kc_95, kc_96, kc_97, kc_98, kc_99, kc_100, kc_112, kc_122, kc_125, kc_126, kc_150, kc_162, kc_163, kc_168, kc_186, kc_190, kc_200, kc_250, kc_255, kc_355, kc_356, kc_404, kc_405, kc_429, kc_573, kc_999, kc_1000, kc_1002, kc_1100, kc_1891, kc_2200, kc_4719, kc_4869, kc_4881, kc_5148, kc_9999, kn_9999, kc_10000, kc_12345, kc_19741, kc_25433, kc_65536, kc_320403, kc_628412, kc_629093, kc_660401, kc_679843, kc_918640, kc_979410, kc_1178088, kc_6232410, kc_24644941, kc_36238189, kc_38270444, kc_392531318, kc_425693491, kc_1103515245, kc_1342154595, kc_2147483648, kc_42328242873, kc_891704255789, kc_1722105685577, kc_1858726030364, ct_0, ct_1, ct_2, ct_3, ct_4, ct_5, cf_0, cf_1, cf_2, cf_3, cf_4, cf_5, w_ty6, w_ty7, m_sv, m_z0, m_hd, m_g0, m_gs, m_s0, m_ss, m_ap, m_an, forall_const, true_and, and_true, ne_eq, not_true_eq_false, not_false_eq_true, false_implies, true_implies, implies_true, eq_self, reduceCtorEq, Nat.reduceDiv, Nat.reduceMod, Int.reduceToNat, or_true, true_or, or_false, false_or, or_self, m_it, m_if, m_c1, m_01, m_02, m_03, m_04, m_10, m_12, m_13, m_14, m_20, m_21, m_23, m_24, m_30, m_31, m_32, m_34, m_40, m_41, m_42, m_43]
  rw [f2_w 182 3 (by decide), sb_w]
  refine ⟨fun hk => ?_, fun hk => ?_⟩
  · have hk2 : k < S := by omega
    rw [Int.toNat_natCast, Int.toNat_natCast]
    have j1 : j32 ((k : Int) + 1) = ((k + 1 : Nat) : Int) := (j32_in ⟨by omega, by omega⟩).trans (by omega)
    rw [j1]
    have step_w : (∃ (m_1 k_1 : Nat) (c f_1 v_1 w_1 : Int), [182, (m : Int), ((k + 1 : Nat) : Int), h2 183 k, f, v, w] = [182, (m_1 : Int), (k_1 : Int), c, f_1, v_1, w_1] ∧ m_1 ≤ k_1 ∧ k_1 ≤ S ∧ QK P (r_T 0) (RJ P) h2 ∧ (∀ o i : Nat, ¬o = 184 ∧ ¬o = 185 ∧ ¬o = 186 → h2 o i = H o i) ∧ VN m_1 h2) ∧ S - ((k + 1 : Nat) : Int).toNat < S - k := ⟨⟨m, k + 1, _, _, _, _, rfl, by omega, by omega, q2_w, f2_w, v2⟩, by omega⟩
    refine ⟨⟨by omega, by omega⟩, fun _ => step_w, fun _ => ⟨fun _ => step_w, fun _ => ⟨⟨by omega, by omega⟩, ?_⟩⟩⟩
    have q5_w := tw_5 q2_w (i := m) (v := (k : Int)) (by omega) (by omega)
    have f5_w : ∀ o i : Nat, (o ≠ 184 ∧ o ≠ 185 ∧ o ≠ 186) → j_up h2 185 m (k : Int) o i = H o i := fun o i z => (up_ne (fun y => z.2.1 y.1)).trans (f2_w o i z)
    have v5 : VN m (j_up h2 185 m (k : Int)) := fun i hi_w hs => by
      rw [up_ne (fun y => absurd y.1 (by decide))] at hs ⊢
      exact v2 i hi_w hs
    have c5 : h2 183 k = H 183 k := f2_w 183 k (by decide)
    rw [c5]
    generalize j_up h2 185 m (k : Int) = h5 at q5_w f5_w v5 ⊢
    obtain ⟨u, x1_w, -, x3⟩ := c186 h5 (H 183 k)
    obtain ⟨u2_w, y1, -, y3⟩ := c187 h5 (H 183 k)
    have endT : ∀ (s v' : Int) (j : Nat), 0 ≤ s → s ≤ 4 → InL v' → (s = 2 → 0 ≤ v' ∧ v' ≤ 9999) → k < j → j ≤ S → (∃ (m_1 k_1 : Nat) (c f v w_1 : Int), [182, j32 ((m : Int) + 1), (j : Int), H 183 k, (k : Int), v', w] = [182, (m_1 : Int), (k_1 : Int), c, f, v, w_1] ∧ m_1 ≤ k_1 ∧ k_1 ≤ S ∧ QK P (r_T 0) (RJ P) (j_up (j_up h5 184 m s) 186 m v') ∧ (∀ o i : Nat, ¬o = 184 ∧ ¬o = 185 ∧ ¬o = 186 → j_up (j_up h5 184 m s) 186 m v' o i = H o i) ∧ VN m_1 (j_up (j_up h5 184 m s) 186 m v')) ∧ S - j < S - k := fun s v' j s0 s4_w iv_w s2_w kj jS_w => by
      rw [j32_in (v := (m : Int) + 1) ⟨by omega, by omega⟩]
      refine ⟨⟨m + 1, j, _, _, _, _, rfl, by omega, jS_w, tw_6 (tw_4 q5_w s0 s4_w) iv_w, fun o i z => ?_, fun i hi_w hs => ?_⟩, by omega⟩
      · rw [up_ne (fun y => z.2.2 y.1), up_ne (fun y => z.1 y.1)]
        exact f5_w o i z
      · rw [up_ne (fun y => absurd y.1 (by decide))] at hs
        by_cases e : i = m
        · subst e
          rw [up_eq] at hs
          rw [up_eq]
          exact s2_w hs
        · rw [up_ne (fun y => e y.2)] at hs
          rw [up_ne (fun y => e y.2), up_ne (fun y => absurd y.1 (by decide))]
          exact v5 i (by omega) hs
    have bm : 0 ≤ (m : Int) ∧ (m : Int) < 1002 := ⟨by omega, by omega⟩
    refine ⟨[u], h5, x1_w, fun hu => ?_, fun hu => ⟨[u2_w], h5, y1, fun hu2 => ?_, fun hu2 => ?_⟩⟩
    · refine w_lp (fun en h' => ∃ (j : Nat) (v' : Int), en = [182, (m : Int), (j : Int), H 183 k, (k : Int), v', w] ∧ k ≤ j ∧ j ≤ S ∧ InL v' ∧ h' = h5) (fun en _ => S - (en.getD 2 0).toNat) ⟨k, 0, rfl, by omega, by omega, ⟨by decide, by decide⟩, rfl⟩ ?_
      rintro en h6 ⟨j, v', rfl, kj, jS_w, iv_w, rfl⟩
      refine ⟨by show S - ((j : Int)).toNat < K; omega, ?_⟩
      simp only [wf_4, wf_40, wf_5, wf_50, wf_6, wl_1, wt_1, wu_1, wa_1, wl_4, wt_4, wu_4, wa_4, wl_5, wt_5, wu_5, wa_5, wl_6, wt_6, wu_6, wa_6, wl_9, wt_9, wu_9, wa_9, wl_10, wt_10, wu_10, wa_10, wl_11, wt_11, wu_11, wa_11, wl_13, wt_13, wu_13, wa_13, wl_14, wt_14, wu_14, wa_14, wl_15, wt_15, wu_15, wa_15, wl_16, wt_16, wu_16, wa_16, wl_17, wt_17, wu_17, wa_17, wl_20, wt_20, wu_20, wa_20, wl_21, wt_21, wu_21, wa_21, wl_22, wt_22, wu_22, wa_22, wl_23, wt_23, wu_23, wa_23, wl_24, wt_24, wu_24, wa_24, wl_26, wt_26, wu_26, wa_26, wl_27, wt_27, wu_27, wa_27, wl_28, wt_28, wu_28, wa_28, we_1, we_3, we_10, we_14, we_15, we_16, we_17, we_18, we_20, we_21, we_22, we_24, we_25, we_26, we_27, we_28, we_30, we_31, we_32, wc_20, wc_21, wc_22, wc_24, wc_25, wc_26, wc_27, wc_3, wc_4, wc_7, wc_28, wc_32, ws_1, ws_2, ws_3, ws_4, ws_9, ws_10, ws_11, ws_14, ws_15, ws_16, ws_27, ws_17, ws_20, ws_28, kc_0, kc_1, kn_1, kc_2, kn_2, kc_3, kc_4, kc_5, kc_6, kc_7, kc_8, kc_9, kc_10, kc_12, kc_13, kc_14, kc_16, kc_17, kc_18, kc_19, kc_20, kc_21, kc_22, kc_24, kc_28, kc_30, kc_32, kc_37, kc_40, kc_41, kc_42, kc_43, kc_45, kc_48, kc_56, kc_57, kc_59, kc_60, kc_61, kc_64, kc_73, kc_78, kc_91, kc_95, kc_96, kc_97, kc_98, kc_99, kc_100, kc_112, kc_122, kc_125, kc_126, kc_150, kc_162, kc_163, kc_168, kc_186, kc_190, kc_200, kc_250, kc_255, kc_355, kc_356, kc_404, kc_405, kc_429, kc_573, kc_999, kc_1000, kc_1002, kc_1100, kc_1891, kc_2200, kc_4719, kc_4869, kc_4881, kc_5148, kc_9999, kn_9999, kc_10000, kc_12345, kc_19741, kc_25433, kc_65536, kc_320403, kc_628412, kc_629093, kc_660401, kc_679843, kc_918640, kc_979410, kc_1178088, kc_6232410, kc_24644941, kc_36238189, kc_38270444, kc_392531318, kc_425693491, kc_1103515245, kc_1342154595, kc_2147483648, kc_42328242873, kc_891704255789, kc_1722105685577, kc_1858726030364, ct_0, ct_1, ct_2, ct_3, ct_4, ct_5, cf_0, cf_1, cf_2, cf_3, cf_4, cf_5, w_ty6, w_ty7, m_sv, m_z0, m_hd, m_g0, m_gs, m_s0, m_ss, m_ap, m_an, forall_const, true_and, and_true, ne_eq, not_true_eq_false, not_false_eq_true, false_implies, true_implies, implies_true, eq_self, reduceCtorEq, Nat.reduceDiv, Nat.reduceMod, Int.reduceToNat, or_true, true_or, or_false, false_or, or_self, m_it, m_if, m_c1, m_01, m_02, m_03, m_04, m_10, m_12, m_13, m_14, m_20, m_21, m_23, m_24, m_30, m_31, m_32, m_34, m_40, m_41, m_42, m_43]
      rw [f5_w 182 3 (by decide), sb_w]
      simp only [Int.toNat_natCast]
      obtain ⟨t, z1, -, z3⟩ := c186 h6 (h6 183 j)
      refine ⟨fun hj => ⟨⟨by omega, by omega⟩, [t], h6, z1, fun ht => ?_, fun ht => ?_⟩, fun hj => ⟨fun _ => ⟨bm, bm, endT 4 v' j (by decide) (by decide) iv_w (fun z => absurd z (by decide)) (by omega) jS_w⟩, fun _ => ⟨bm, bm, endT 1 v' j (by decide) (by decide) iv_w (fun z => absurd z (by decide)) (by omega) jS_w⟩⟩⟩
      · have j1 : j32 ((j : Int) + 1) = ((j + 1 : Nat) : Int) := (j32_in ⟨by omega, by omega⟩).trans (by omega)
        rw [j1]
        obtain ⟨y, w1_w, w2_w⟩ := c188 h6 (h6 183 j)
        exact ⟨fun _ => ⟨⟨by omega, by omega⟩, [y], h6, w1_w, ⟨j + 1, _, rfl, by omega, by omega, lop_in 0 _ _, rfl⟩, by omega⟩, fun _ => ⟨⟨j + 1, v', rfl, by omega, by omega, iv_w, rfl⟩, by omega⟩⟩
      · have kj2 : k < j := by
          rcases Nat.lt_or_ge k j with z | z
          · exact z
          · have e : j = k := by omega
            subst e
            have c := f5_w 183 j (by decide)
            rw [← c] at x3
            exact absurd ht (z3.mpr (x3.mp hu))
        exact ⟨fun _ => ⟨bm, bm, endT 4 v' j (by decide) (by decide) iv_w (fun z => absurd z (by decide)) kj2 jS_w⟩, fun _ => ⟨bm, bm, endT 1 v' j (by decide) (by decide) iv_w (fun z => absurd z (by decide)) kj2 jS_w⟩⟩
    · refine w_lp (fun en h' => ∃ (j : Nat) (v' : Int), en = [182, (m : Int), (j : Int), H 183 k, (k : Int), v', w] ∧ k ≤ j ∧ j ≤ S ∧ (0 ≤ v' ∧ v' ≤ 9999 ∧ (j = k → v' ≤ 0) ∧ (j = k + 1 → v' ≤ 9) ∧ (j = k + 2 → v' ≤ 99) ∧ (j = k + 3 → v' ≤ 999)) ∧ h' = h5) (fun en _ => S - (en.getD 2 0).toNat) ⟨k, 0, rfl, by omega, by omega, ⟨by omega, by omega, fun _ => by omega, fun _ => by omega, fun _ => by omega, fun _ => by omega⟩, rfl⟩ ?_
      rintro en h6 ⟨j, v', rfl, kj, jS_w, ⟨v0_w, v9, d0_w, d1_w, d2_w, d3_w⟩, rfl⟩
      refine ⟨by show S - ((j : Int)).toNat < K; omega, ?_⟩
      have iv_w : InL v' := ⟨by omega, by omega⟩
      simp only [wf_4, wf_40, wf_5, wf_50, wf_6, wl_1, wt_1, wu_1, wa_1, wl_4, wt_4, wu_4, wa_4, wl_5, wt_5, wu_5, wa_5, wl_6, wt_6, wu_6, wa_6, wl_9, wt_9, wu_9, wa_9, wl_10, wt_10, wu_10, wa_10, wl_11, wt_11, wu_11, wa_11, wl_13, wt_13, wu_13, wa_13, wl_14, wt_14, wu_14, wa_14, wl_15, wt_15, wu_15, wa_15, wl_16, wt_16, wu_16, wa_16, wl_17, wt_17, wu_17, wa_17, wl_20, wt_20, wu_20, wa_20, wl_21, wt_21, wu_21, wa_21, wl_22, wt_22, wu_22, wa_22, wl_23, wt_23, wu_23, wa_23, wl_24, wt_24, wu_24, wa_24, wl_26, wt_26, wu_26, wa_26, wl_27, wt_27, wu_27, wa_27, wl_28, wt_28, wu_28, wa_28, we_1, we_3, we_10, we_14, we_15, we_16, we_17, we_18, we_20, we_21, we_22, we_24, we_25, we_26, we_27, we_28, we_30, we_31, we_32, wc_20, wc_21, wc_22, wc_24, wc_25, wc_26, wc_27, wc_3, wc_4, wc_7, wc_28, wc_32, ws_1, ws_2, ws_3, ws_4, ws_9, ws_10, ws_11, ws_14, ws_15, ws_16, ws_27, ws_17, ws_20, ws_28, kc_0, kc_1, kn_1, kc_2, kn_2, kc_3, kc_4, kc_5, kc_6, kc_7, kc_8, kc_9, kc_10, kc_12, kc_13, kc_14, kc_16, kc_17, kc_18, kc_19, kc_20, kc_21, kc_22, kc_24, kc_28, kc_30, kc_32, kc_37, kc_40, kc_41, kc_42, kc_43, kc_45, kc_48, kc_56, kc_57, kc_59, kc_60, kc_61, kc_64, kc_73, kc_78, kc_91, kc_95, kc_96, kc_97, kc_98, kc_99, kc_100, kc_112, kc_122, kc_125, kc_126, kc_150, kc_162, kc_163, kc_168, kc_186, kc_190, kc_200, kc_250, kc_255, kc_355, kc_356, kc_404, kc_405, kc_429, kc_573, kc_999, kc_1000, kc_1002, kc_1100, kc_1891, kc_2200, kc_4719, kc_4869, kc_4881, kc_5148, kc_9999, kn_9999, kc_10000, kc_12345, kc_19741, kc_25433, kc_65536, kc_320403, kc_628412, kc_629093, kc_660401, kc_679843, kc_918640, kc_979410, kc_1178088, kc_6232410, kc_24644941, kc_36238189, kc_38270444, kc_392531318, kc_425693491, kc_1103515245, kc_1342154595, kc_2147483648, kc_42328242873, kc_891704255789, kc_1722105685577, kc_1858726030364, ct_0, ct_1, ct_2, ct_3, ct_4, ct_5, cf_0, cf_1, cf_2, cf_3, cf_4, cf_5, w_ty6, w_ty7, m_sv, m_z0, m_hd, m_g0, m_gs, m_s0, m_ss, m_ap, m_an, forall_const, true_and, and_true, ne_eq, not_true_eq_false, not_false_eq_true, false_implies, true_implies, implies_true, eq_self, reduceCtorEq, Nat.reduceDiv, Nat.reduceMod, Int.reduceToNat, or_true, true_or, or_false, false_or, or_self, m_it, m_if, m_c1, m_01, m_02, m_03, m_04, m_10, m_12, m_13, m_14, m_20, m_21, m_23, m_24, m_30, m_31, m_32, m_34, m_40, m_41, m_42, m_43]
      rw [f5_w 182 3 (by decide), sb_w]
      simp only [Int.toNat_natCast]
      obtain ⟨t, z1, -, z3⟩ := c187 h6 (h6 183 j)
      have js : j_iop 1 (j : Int) (k : Int) = (j : Int) - (k : Int) := jsub (by omega) (by omega)
      rw [js]
      refine ⟨fun hj => ⟨⟨by omega, by omega⟩, [t], h6, z1, fun ht => ?_, fun ht => ?_⟩, fun hj => ⟨fun _ => ⟨bm, bm, endT 4 v' j (by decide) (by decide) iv_w (fun z => absurd z (by decide)) (by omega) jS_w⟩, fun _ => ⟨bm, bm, endT 2 v' j (by decide) (by decide) iv_w (fun _ => ⟨v0_w, v9⟩) (by omega) jS_w⟩⟩⟩
      · have j1 : j32 ((j : Int) + 1) = ((j + 1 : Nat) : Int) := (j32_in ⟨by omega, by omega⟩).trans (by omega)
        rw [j1]
        obtain ⟨g0, g1⟩ := z3.mp ht
        have el : j_lop 1 (j_lop 0 (j_lop 2 10 v') (j_un 2 (h6 183 j))) 48 = 10 * v' + h6 183 j - 48 := by
          show j64 (j64 (j64 (10 * v') + h6 183 j) - 48) = _
          rw [j64_in (v := 10 * v') ⟨by omega, by omega⟩, j64_in (v := 10 * v' + h6 183 j) ⟨by omega, by omega⟩, j64_in (v := 10 * v' + h6 183 j - 48) ⟨by omega, by omega⟩]
        rw [el]
        exact ⟨fun hd_w => ⟨⟨by omega, by omega⟩, ⟨j + 1, _, rfl, by omega, by omega, ⟨by omega, by omega, fun _ => by omega, fun _ => by omega, fun _ => by omega, fun _ => by omega⟩, rfl⟩, by omega⟩, fun hd_w => ⟨⟨j + 1, v', rfl, by omega, by omega, ⟨v0_w, v9, fun _ => by omega, fun _ => by omega, fun _ => by omega, fun _ => by omega⟩, rfl⟩, by omega⟩⟩
      · have kj2 : k < j := by
          rcases Nat.lt_or_ge k j with z | z
          · exact z
          · have e : j = k := by omega
            subst e
            have c := f5_w 183 j (by decide)
            rw [← c] at y3
            exact absurd ht (z3.mpr (y3.mp hu2))
        exact ⟨fun _ => ⟨bm, bm, endT 4 v' j (by decide) (by decide) iv_w (fun z => absurd z (by decide)) kj2 jS_w⟩, fun _ => ⟨bm, bm, endT 2 v' j (by decide) (by decide) iv_w (fun _ => ⟨v0_w, v9⟩) kj2 jS_w⟩⟩
    · obtain ⟨t, z1, -⟩ := c189 h5 (H 183 k)
      have iv_w : InL (j_un 2 (H 183 k)) := by
        rw [← f5_w 183 k (by decide)]
        have := ht_int q5_w.1 (q := 183) (by decide) k
        unfold InI at this
        exact ⟨by show _ ≤ h5 183 k; omega, by show h5 183 k < _; omega⟩
      exact ⟨[t], h5, z1, fun _ => ⟨bm, bm, endT 3 _ (k + 1) (by decide) (by decide) iv_w (fun z => absurd z (by decide)) (by omega) (by omega)⟩, fun _ => ⟨bm, bm, endT 4 _ (k + 1) (by decide) (by decide) iv_w (fun z => absurd z (by decide)) (by omega) (by omega)⟩⟩
  · rw [Int.toNat_natCast, up_ne (fun z => absurd z.1 (by decide)), f2_w 182 3 (by decide), sb_w]
    have q3_w := tw_4 q2_w (i := m) (v := 0) (by decide) (by decide)
    have q4_w := tw_5 q3_w (i := m) (v := (S : Int)) (by omega) (by omega)
    have q5_w := (fd_QK q4_w rj_js (k := 7) (v := 0) (Or.inl rfl) (IV.top in_0)).1
    have q6_w := (fd_QK q5_w rj_js (k := 8) (v := 0) (Or.inl rfl) (IV.top in_0)).1
    have e8 : j_up (j_up (j_up (j_up h2 184 m 0) 185 m (S : Int)) 182 7 0) 182 8 0 182 8 = 0 := up_eq
    have e7_w : j_up (j_up (j_up (j_up h2 184 m 0) 185 m (S : Int)) 182 7 0) 182 8 0 182 7 = 0 := (up_ne (fun z => absurd z.2 (by decide))).trans up_eq
    have o : ∀ o i : Nat, (o = 182 → i ≠ 7 ∧ i ≠ 8) → (o = 184 → i ≠ m) → o ≠ 185 → j_up (j_up (j_up (j_up h2 184 m 0) 185 m (S : Int)) 182 7 0) 182 8 0 o i = h2 o i := fun o i z1 z2 z3 => by
      rw [up_ne (fun z => (z1 z.1).2 z.2), up_ne (fun z => (z1 z.1).1 z.2), up_ne (fun z => z3 z.1), up_ne (fun z => z2 z.1 z.2)]
    have e4_w : j_up (j_up (j_up (j_up h2 184 m 0) 185 m (S : Int)) 182 7 0) 182 8 0 184 m = 0 := by
      rw [up_ne (fun z => absurd z.1 (by decide)), up_ne (fun z => absurd z.1 (by decide)), up_ne (fun z => absurd z.1 (by decide)), up_eq]
    have fr : ∀ o' k : Nat, (o' = 182 → k ≠ 2 ∧ k ≠ 3 ∧ k ≠ 7 ∧ k ≠ 8) → (o' ≠ 184 ∧ o' ≠ 185 ∧ o' ≠ 186) → j_up (j_up (j_up (j_up h2 184 m 0) 185 m (S : Int)) 182 7 0) 182 8 0 o' k = h o' k := fun o' k z1 z2 => (o o' k (fun z => (z1 z).2.2) (fun z => absurd z z2.1) z2.2.1).trans ((f2_w o' k z2).trans (fb o' k z1))
    have e12_w := fr 182 12 (fun _ => by decide) (by decide)
    refine ⟨⟨by omega, by omega⟩, ⟨by omega, by omega⟩, rfl, m, ⟨q6_w, ⟨by omega, by omega, by omega, by omega, e4_w, by omega, by omega, fun i hi_w hs => ?_⟩, ?_⟩, e7_w, fr⟩
    · rw [o 184 i (fun z => absurd z (by decide)) (fun _ => by omega) (by decide)] at hs
      rw [o 186 i (fun z => absurd z (by decide)) (fun z => absurd z (by decide)) (by decide)]
      exact v2 i hi_w hs
    · exact DG.up hQ hD (fr 188 96 (fun z => absurd z (by decide)) (by decide)) (fr 188 98 (fun z => absurd z (by decide)) (by decide)) (fun i _ => fr 188 _ (fun z => absurd z (by decide)) (by decide)) (fun i _ => fr 188 _ (fun z => absurd z (by decide)) (by decide))
end PARO
end
section
/-! ===== a tree that asks_w nothing_w of the script_w answers_w the same, whatever the script_w is_w ===== -/
def n_s1 (t : Nat) : SX → Bool
  | .op _ (.op b c) => !((t == 7 && sx_n c == 1) || (t == 10 && sx_n c == 1) || (t == 32 && sx_n b == 332) || (t == 34 && sx_n c == 332) || (t == 24 && sx_n c == 332))
  | _ => true
def n_scr : SX → Bool
  | .var _ => true
  | .op (.var t) r => n_s1 t r && n_scr r
  | .op x y => n_scr x && n_scr y
section SCR
variable {xs ys : Nat → Int} {L L' K : Nat} {ck : Nat → List Nat} {F F' : XP} {cW : Nat → Nat → Int}
theorem ns_op : ∀ {x y : SX}, n_scr (.op x y) = true → n_scr x = true ∧ n_scr y = true
  | .var t, y, h => by
    unfold n_scr at h
    rw [Bool.and_eq_true] at h
    exact ⟨rfl, h.2⟩
  | .op u v, y, h => by
    unfold n_scr at h
    rwa [Bool.and_eq_true] at h
theorem ns_nd {t : Nat} {a b c : SX} (h : n_scr (.op (.var t) (.op a (.op b c))) = true) : (n_scr a = true ∧ n_scr b = true ∧ n_scr c = true) ∧ (t = 7 → sx_n c ≠ 1) ∧ (t = 10 → sx_n c ≠ 1) ∧ (t = 32 → sx_n b ≠ 332) ∧ (t = 34 → sx_n c ≠ 332) ∧ (t = 24 → sx_n c ≠ 332) := by
  have h1 := (ns_op h).2
  have h2 := ns_op h1
  have h3 := ns_op h2.2
  unfold n_scr at h
  rw [Bool.and_eq_true] at h
  have k := h.1
  unfold n_s1 at k
  simp only [Bool.not_eq_true', Bool.or_eq_false_iff, Bool.and_eq_false_iff, beq_eq_false_iff_ne, ne_eq] at k
  refine ⟨⟨h2.1, h3.1, h3.2⟩, ?_, ?_, ?_, ?_, ?_⟩ <;> intro e <;> intro e2_w <;> omega
theorem ns_al {k : Nat} (hk : k ≠ 1) {A B : XE} : n_aload xs L k A B = n_aload ys L' k A B := by
  unfold n_aload
  match k, hk with
  | 0, _ => rfl
  | 1, h => exact absurd rfl h
  | k + 2, _ => rfl
theorem ns_ln {k : Nat} (hk : k ≠ 1) {A : XE} : n_alen L k A = n_alen L' k A := by
  unfold n_alen
  match k, hk with
  | 0, _ => rfl
  | 1, h => exact absurd rfl h
  | k + 2, _ => rfl
theorem ns_E (hF : ∀ f, f ≠ 332 → F f = F' f) : ∀ t : SX, n_scr t = true → evE xs L ck F cW t = evE ys L' ck F' cW t
  | .op (.var t) (.op a (.op b c)), h => by
    obtain ⟨⟨ha_w, hb_w, hc_w⟩, h7, h10, h32, h34, -⟩ := ns_nd h
    show nodeE xs L ck F cW t a b c (evE xs L ck F cW a) (evE xs L ck F cW b) (evE xs L ck F cW c) = nodeE ys L' ck F' cW t a b c (evE ys L' ck F' cW a) (evE ys L' ck F' cW b) (evE ys L' ck F' cW c)
    rw [ns_E hF a ha_w, ns_E hF b hb_w, ns_E hF c hc_w]
    unfold nodeE
    split
    case h_5 => exact ns_al (h7 rfl)
    case h_6 => exact ns_ln (h10 rfl)
    case h_24 =>
      unfold n_call
      rw [hF _ (h32 rfl)]
    case h_25 =>
      unfold n_new
      rw [hF _ (h34 rfl)]
    all_goals rfl
  | .var _, _ => rfl
  | .op (.op _ _) _, _ => rfl
  | .op (.var _) (.var _), _ => rfl
  | .op (.var _) (.op _ (.var _)), _ => rfl
theorem ns_S (hF : ∀ f, f ≠ 332 → F f = F' f) : ∀ t : SX, n_scr t = true → evS xs L ck F K cW t = evS ys L' ck F' K cW t
  | .op (.var t) (.op a (.op b c)), h => by
    obtain ⟨⟨ha_w, hb_w, hc_w⟩, h7, h10, h32, h34, h24⟩ := ns_nd h
    show nodeS xs L ck F K cW t a b c (evS xs L ck F K cW a) (evS xs L ck F K cW b) (evS xs L ck F K cW c) = nodeS ys L' ck F' K cW t a b c (evS ys L' ck F' K cW a) (evS ys L' ck F' K cW b) (evS ys L' ck F' K cW c)
    rw [ns_S hF a ha_w, ns_S hF b hb_w, ns_S hF c hc_w]
    have ea := ns_E (xs := xs) (ys := ys) (L := L) (L' := L') (ck := ck) (cW := cW) hF a ha_w
    have eb := ns_E (xs := xs) (ys := ys) (L := L) (L' := L') (ck := ck) (cW := cW) hF b hb_w
    have ec : ∀ u v, c = .op u v → evE xs L ck F cW v = evE ys L' ck F' cW v := fun u v e => ns_E hF v (ns_op (e ▸ hc_w)).2
    unfold nodeS
    dsimp only
    rw [ea, eb]
    split
    case h_7 =>
      split
      · rw [ec _ _ rfl]
      · rfl
    case h_8 =>
      split
      · rw [ec _ _ rfl]
      · rfl
    case h_25 =>
      unfold s_try
      rw [hF _ (h24 rfl)]
    all_goals rfl
  | .var _, _ => rfl
  | .op (.op _ _) _, _ => rfl
  | .op (.var _) (.var _), _ => rfl
  | .op (.var _) (.op _ (.var _)), _ => rfl
theorem ns_F {M : Nat → XM} (hM_w : ∀ f, f ≠ 332 → n_scr (M f).2.2.2.2 = true) : ∀ n f, f ≠ 332 → evF xs L ck K cW M n f = evF ys L' ck K cW M n f
  | 0, _, _ => rfl
  | n + 1, f, hf => by
    unfold evF
    rw [ns_S (ns_F hM_w n) _ (hM_w f hf)]
def g_nsc (f : Nat) : Bool := Nat.beq f 332 || n_scr (g_M f).2.2.2.2
theorem g_nsc_ok : (List.range 352).all g_nsc = true := by decide +kernel
theorem g_nsM : ∀ f, f ≠ 332 → n_scr (g_M f).2.2.2.2 = true := fun f hf => by
  by_cases h : f < 352
  · have k := List.all_eq_true.mp g_nsc_ok f (List.mem_range.mpr h)
    rw [g_nsc, Bool.or_eq_true] at k
    rcases k with k | k
    · exact absurd (Nat.eq_of_beq_eq_true k) hf
    · exact k
  · have e : g_M f = (0, 0, [], [], .var 0) := by
      unfold g_M
      exact t_out (by show 352 ≤ f; omega)
    rw [e]
    rfl
end SCR
end
section
/-! ===== the law's loop_w, whatever it is_w that lasts from call to call ===== -/
def lwE (i s t : Int) : List Int := [0, 0, 182, 203, i, s, t]
def sA (j : Nat) : SX := sx 7 (sx 3 z0 z0 z0) (sx 14 (sx 3 (sv 4) z0 z0) (sx 1 (sv j) (sv 1) z0) z0) (sv 1)
def sB (j : Nat) : SX := sx 21 (sA j) z0 (sv 1)
def StepOK (xs : Nat → Int) (L K : Nat) (F : XP) (I : XH → Prop) (B : SX) (i : Int) : Prop := ∀ (s t : Int) (c d : Nat) (h : XH), I h → ∃ (s' t' : Int) (c' d' : Nat) (h' : XH), evS xs L g_ck F K g_cW B (lwE i s t) ((a_g3, c, d), h) = some (2, [], lwE i s' t', ((a_g3, c', d'), h')) ∧ I h' ∧ c' ≤ c + 1 ∧ d' ≤ d + 6
def CaseOK (xs : Nat → Int) (L K : Nat) (F : XP) (I : XH → Prop) (B : SX) (i : Int) : Prop := ∀ (z s t : Int) (c d : Nat) (h : XH), I h → ∃ (s' t' : Int) (c' d' : Nat) (h' : XH), evS xs L g_ck F K g_cW B (z :: lwE i s t) ((a_g3, c, d), h) = some (2, [], lwE i s' t', ((a_g3, c', d'), h')) ∧ I h' ∧ c' ≤ c + 1 ∧ d' ≤ d + 6
section LAWL
variable {xs : Nat → Int} {L K : Nat} {F : XP} {I : XH → Prop} {i s t : Int}
theorem es_14 {ck : Nat → List Nat} {cW : Nat → Nat → Int} {a b c : SX} : evS xs L ck F K cW (sx 14 a b c) = fun en st => some (2, [], en, st) := rfl
theorem es_24 {ck : Nat → List Nat} {cW : Nat → Nat → Int} {a b c : SX} : evS xs L ck F K cW (sx 24 a b c) = s_try F (sx_n c) (evE xs L ck F cW a) (evE xs L ck F cW b) := rfl
theorem case_cons {l B C : SX} (hB_w : StepOK xs L K F I B i) (hC : CaseOK xs L K F I C i) : CaseOK xs L K F I (sx 25 l B C) i := by
  intro z s t c d h hI
  rw [es_25]
  by_cases e : (sx_l l).any (fun n => decide ((z :: lwE i s t).headD 0 = sx_z n)) = true
  · obtain ⟨s', t', c', d', h', e1_w, e2_w⟩ := hB_w s t c d h hI
    refine ⟨s', t', c', d', h', (if_pos e).trans ?_, e2_w⟩
    show (evS xs L g_ck F K g_cW B (lwE i s t) ((a_g3, c, d), h)).bind _ = _
    rw [e1_w]
    rfl
  · obtain ⟨s', t', c', d', h', e1_w, e2_w⟩ := hC z s t c d h hI
    exact ⟨s', t', c', d', h', (if_neg e).trans e1_w, e2_w⟩
theorem case_nil {a b : SX} : CaseOK xs L K F I (sx 26 (sx 14 z0 z0 z0) a b) i := fun _ s t c d h hI => ⟨s, t, c, d, h, rfl, hI, by omega, by omega⟩
theorem lw_s5 {v : Int} : (lwE i s t).set 5 v = lwE i v t := rfl
theorem lw_s6 {v : Int} : (lwE i s t).set 6 v = lwE i s v := rfl
theorem j32_id {x : Int} (h0 : -2147483648 ≤ x) (h1 : x ≤ 2147483647) : j32 x = x := j32_in ⟨h0, by omega⟩
theorem sA_ev {st : XT} (hL : (L : Int) ≤ 2147483647) (h0 : 0 ≤ i) (h1 : i + 7 ≤ (L : Int)) (j : Nat) (hj : j ≤ 6) : evE xs L g_ck F g_cW (sA j) (lwE i s t) st = some ([xs (i + (j : Int)).toNat], st) := by
  have e1_w : evE xs L g_ck F g_cW (sx 14 (sx 3 (sv 4) z0 z0) (sx 1 (sv j) (sv 1) z0) z0) (lwE i s t) st = some ([i + (j : Int)], st) := by
    rw [ee_14, ee_3, ee_1]
    unfold n_bin
    show some ([j_iop 0 i (j : Int)], st) = _
    rw [show j_iop 0 i (j : Int) = j32 (i + (j : Int)) from rfl, j32_id (by omega) (by omega)]
  unfold sA
  rw [ee_7]
  unfold n_aload
  rw [ee_3]
  show ((evE xs L g_ck F g_cW (sx 14 (sx 3 (sv 4) z0 z0) (sx 1 (sv j) (sv 1) z0) z0) (lwE i s t) st).bind fun y => if 0 ≤ j_hd y.1 ∧ j_hd y.1 < (L : Int) then some ([xs (j_hd y.1).toNat], y.2) else none) = _
  rw [e1_w, Option.bind_some]
  exact if_pos ⟨show 0 ≤ i + (j : Int) by omega, show i + (j : Int) < (L : Int) by omega⟩
theorem sB_ev {st : XT} (hL : (L : Int) ≤ 2147483647) (h0 : 0 ≤ i) (h1 : i + 7 ≤ (L : Int)) (j : Nat) (hj : j ≤ 6) : evE xs L g_ck F g_cW (sB j) (lwE i s t) st = some ([j_b (j_cmp 1 (xs (i + (j : Int)).toNat) 0)], st) := by
  unfold sB
  rw [ee_21]
  show (evE xs L g_ck F g_cW (sA j) (lwE i s t) st).bind _ = _
  rw [sA_ev hL h0 h1 j hj]
  rfl
/-- the arguments of a call: what they are, whatever the state_w is_w -/
def ArgE (xs : Nat → Int) (L : Nat) (F : XP) (A : SX) (i : Int) (vs : List Int) : Prop := ∀ (s t : Int) (st : XT), evE xs L g_ck F g_cW A (lwE i s t) st = some (vs, st)
theorem arg_nil : ArgE xs L F (sx 31 z0 z0 z0) i [] := fun _ _ _ => rfl
theorem arg_cons {a A : SX} {v : Int} {vs : List Int} (ha_w : ∀ (s t : Int) (st : XT), evE xs L g_ck F g_cW a (lwE i s t) st = some ([v], st)) (hA : ArgE xs L F A i vs) : ArgE xs L F (sx 30 a A z0) i (v :: vs) := fun s t st => by
  rw [ee_30]
  show ((evE xs L g_ck F g_cW a (lwE i s t) st).bind _) = _
  rw [ha_w, Option.bind_some, hA, Option.bind_some]
  rfl
theorem arg_x {A : SX} {vs : List Int} (hA : ArgE xs L F A i vs) : ArgE xs L F (sx 30 (sx 3 (sv 1) z0 z0) A z0) i (0 :: vs) := arg_cons (fun _ _ _ => rfl) hA
theorem arg_m {A : SX} {vs : List Int} (hA : ArgE xs L F A i vs) : ArgE xs L F (sx 30 (sx 3 (sv 2) z0 z0) A z0) i (182 :: vs) := arg_cons (fun _ _ _ => rfl) hA
theorem arg_o : ArgE xs L F (sx 30 (sx 3 (sv 3) z0 z0) (sx 31 z0 z0 z0) z0) i [203] := arg_cons (fun _ _ _ => rfl) arg_nil
/-- a call of both_w, nothing_w held_w against the other_w -/
theorem step_1 {A B : SX} {f r : Nat} {vs ws_w : List Int} (hA : ArgE xs L F A i vs) (hB_w : ArgE xs L F B i ws_w) (hP : ∀ (c d : Nat) (h : XH), I h → ∃ (v1_w v2 : List Int) (h1 h2 : XH), F f vs ((a_g3, c, d), h) = some (1, v1_w, ((a_g3, c, d), h1)) ∧ F r ws_w ((a_g3, c, d), h1) = some (1, v2, ((a_g3, c, d), h2)) ∧ I h2) :
    StepOK xs L K F I (sx 2 (sx 9 (sx 32 A (sv f) z0) z0 z0) (sx 2 (sx 9 (sx 32 B (sv r) z0) z0 z0) (sx 14 z0 z0 z0) z0) z0) i := by
  intro s t c d h hI
  obtain ⟨v1_w, v2, h1, h2, e1_w, e2_w, e3_w⟩ := hP c d h hI
  refine ⟨s, t, c, d, h2, ?_, e3_w, by omega, by omega⟩
  have a1_w := hA s t ((a_g3, c, d), h)
  have a2 := hB_w s t ((a_g3, c, d), h1)
  simp only [es_2, s_seq, es_9, ee_32, n_call, n_sv, a1_w, a2, Option.bind_some, e1_w, e2_w, if_true, es_14]
/-- a call of the class by one that catches, and of the reference_w -/
theorem step_2 {A B : SX} {f r : Nat} {vs ws_w : List Int} (hA : ArgE xs L F A i vs) (hB_w : ArgE xs L F B i ws_w) (hP : ∀ (c d : Nat) (h : XH), I h → ∃ (v1_w v2 : List Int) (c' d' : Nat) (h1 h2 : XH), F f vs ((a_g3, c, d), h) = some (1, v1_w, ((a_g3, c', d'), h1)) ∧ F r ws_w ((a_g3, c', d'), h1) = some (1, v2, ((a_g3, c', d'), h2)) ∧ I h2 ∧ c' ≤ c + 1 ∧ d' ≤ d + 6) :
    StepOK xs L K F I (sx 2 (sx 20 (sx 2 (sx 3 (sv 5) (sx 32 A (sv f) z0) z0) (sx 3 (sv 6) (sx 32 B (sv r) z0) z0) z0) z0 z0) (sx 14 z0 z0 z0) z0) i := by
  intro s t c d h hI
  obtain ⟨v1_w, v2, c', d', h1, h2, e1_w, e2_w, e3_w, e4_w, e5_w⟩ := hP c d h hI
  refine ⟨j_hd v1_w, j_hd v2, c', d', h2, ?_, e3_w, e4_w, e5_w⟩
  have a1_w := hA s t ((a_g3, c, d), h)
  have a2 := hB_w (j_hd v1_w) t ((a_g3, c', d'), h1)
  simp only [es_2, s_seq, es_3, es_20, ee_32, n_call, lw_s5, lw_s6, n_sv, a1_w, a2, Option.bind_some, e1_w, e2_w, if_true, es_14]
theorem lw_cond {a : SX} {st : XT} (hL : (L : Int) ≤ 2147483647) : evE xs L g_ck F g_cW fwC (lwE i s t) st = some ([j_b (decide (i ≤ (L : Int) - 7))], st) := by
  unfold fwC
  rw [ee_20, ee_14, ee_3, ee_10, ee_1]
  unfold n_cmp n_bin n_alen
  show some ([j_b (j_cmp 5 i (j_iop 1 (L : Int) 7))], st) = _
  rw [show j_iop 1 (L : Int) 7 = j32 ((L : Int) - 7) from rfl, j32_id (by omega) (by omega)]
  rfl
theorem lw_sel {st : XT} (hL : (L : Int) ≤ 2147483647) (h0 : 0 ≤ i) (h1 : i + 7 ≤ (L : Int)) : evE xs L g_ck F g_cW fwS (lwE i s t) st = some ([j_iop 3 (xs i.toNat) 63], st) := by
  have e1_w : evE xs L g_ck F g_cW (sx 7 (sx 3 z0 z0 z0) (sx 3 (sv 4) z0 z0) (sv 1)) (lwE i s t) st = some ([xs i.toNat], st) := by
    rw [ee_7]
    unfold n_aload
    rw [ee_3, ee_3]
    exact if_pos ⟨h0, show i < (L : Int) by omega⟩
  unfold fwS
  rw [ee_14]
  unfold n_bin
  rw [e1_w]
  rfl
theorem lw_step {st : XT} (h0 : 0 ≤ i) (h1 : i + 7 ≤ 2147483647) : evS xs L g_ck F K g_cW fwP (lwE i s t) st = some (0, [], lwE (i + 7) s t, st) := by
  unfold fwP
  rw [es_4]
  show some (0, [], lwE (j32 (i + 7)) s t, st) = _
  rw [j32_id (by omega) (by omega)]
theorem lw_body {C : SX} (hL : (L : Int) ≤ 2147483647) (h0 : 0 ≤ i) (h1 : i + 7 ≤ (L : Int)) (hC : CaseOK xs L K F I C i) {c d : Nat} {h : XH} (hI : I h) : ∃ (s' t' : Int) (c' d' : Nat) (h' : XH), evS xs L g_ck F K g_cW (sx 20 (sx 19 fwS C z0) z0 z0) (lwE i s t) ((a_g3, c, d), h) = some (0, [], lwE i s' t', ((a_g3, c', d'), h')) ∧ I h' ∧ c' ≤ c + 1 ∧ d' ≤ d + 6 := by
  obtain ⟨s', t', c', d', h', e1_w, e2_w⟩ := hC (j_iop 3 (xs i.toNat) 63) s t c d h hI
  refine ⟨s', t', c', d', h', ?_, e2_w⟩
  rw [es_20, es_19]
  unfold s_sw
  rw [lw_sel hL h0 h1, Option.bind_some]
  show ((evS xs L g_ck F K g_cW C (j_iop 3 (xs i.toNat) 63 :: lwE i s t) ((a_g3, c, d), h)).bind _) = _
  rw [e1_w]
  rfl
theorem lw_loop {C : SX} (hL : (L : Int) ≤ 2147483640) (hC : ∀ i : Int, 0 ≤ i → i + 7 ≤ (L : Int) → CaseOK xs L K F I C i) : ∀ (m fuel : Nat) (i s t : Int) (c d : Nat) (h : XH), 0 ≤ i → (L : Int) < i + 7 * (m : Int) + 7 → m + 1 ≤ fuel → I h →
    ∃ (i' s' t' : Int) (c' d' : Nat) (h' : XH), s_loop (evE xs L g_ck F g_cW fwC) (evS xs L g_ck F K g_cW (sx 20 (sx 19 fwS C z0) z0 z0)) (evS xs L g_ck F K g_cW fwP) fuel (lwE i s t) ((a_g3, c, d), h) = some (0, [], lwE i' s' t', ((a_g3, c', d'), h')) ∧ I h' ∧ c' ≤ c + m ∧ d' ≤ d + 6 * m
  | m, fuel, i, s, t, c, d, h, h0, hm_w, hf, hI => by
    obtain ⟨fuel, rfl⟩ : ∃ k, fuel = k + 1 := ⟨fuel - 1, by omega⟩
    unfold s_loop
    rw [lw_cond (a := z0) (by omega), Option.bind_some]
    by_cases e : i ≤ (L : Int) - 7
    · match m, hm_w, hf with
      | 0, hm_w, _ => exact absurd e (by omega)
      | m + 1, hm_w, hf =>
        obtain ⟨s1_w, t1_w, c1_w, d1_w, h1, e1_w, e2_w, e3_w, e4_w⟩ := lw_body (K := K) (s := s) (t := t) (c := c) (d := d) (by omega) h0 (by omega) (hC i h0 (by omega)) hI
        obtain ⟨i2_w, s2_w, t2_w, c2, d2_w, h2, f1_w, f2_w, f3_w, f4_w⟩ := lw_loop hL hC m fuel (i + 7) s1_w t1_w c1_w d1_w h1 (by omega) (by omega) (by omega) e2_w
        refine ⟨i2_w, s2_w, t2_w, c2, d2_w, h2, ?_, f2_w, by omega, by omega⟩
        rw [decide_eq_true e]
        refine (if_neg (show ¬ (1 : Int) = 0 by decide)).trans ?_
        show ((evS xs L g_ck F K g_cW (sx 20 (sx 19 fwS C z0) z0 z0) (lwE i s t) ((a_g3, c, d), h)).bind _) = _
        rw [e1_w, Option.bind_some]
        refine (if_pos (Or.inl rfl)).trans ?_
        show ((evS xs L g_ck F K g_cW fwP (lwE i s1_w t1_w) ((a_g3, c1_w, d1_w), h1)).bind _) = _
        rw [lw_step h0 (by omega), Option.bind_some]
        exact (if_pos rfl).trans f1_w
    · refine ⟨i, s, t, c, d, h, ?_, hI, by omega, by omega⟩
      rw [decide_eq_false e]
      exact if_pos rfl
/-- the law_w behind_w its first three_w statements -/
theorem lw_end {C : SX} {m : Nat} (hL : (L : Int) ≤ 2147483640) (hm_w : L < 7 * m + 7) (hK_w : m + 1 ≤ K) (hC : ∀ i : Int, 0 ≤ i → i + 7 ≤ (L : Int) → CaseOK xs L K F I C i) {c d : Nat} {h : XH} (hI : I h) :
    ∃ (en' : List Int) (c' d' : Nat) (h' : XH), evS xs L g_ck F K g_cW (sx 2 (sx 20 (sx 2 (sx 3 (sv 4) (sx 1 z0 (sv 1) z0) z0) (sx 12 fwC (sx 20 (sx 19 fwS C z0) z0 z0) fwP) z0) z0 z0) (sx 27 (sx 1 (sv 1) (sv 1) z0) z0 z0) z0) (lwE 0 0 0) ((a_g3, c, d), h) = some (1, [1], en', ((a_g3, c', d'), h')) ∧ c' ≤ c + m ∧ d' ≤ d + 6 * m := by
  obtain ⟨i', s', t', c', d', h', e1_w, e2_w, e3_w, e4_w⟩ := lw_loop (K := K) hL hC m K 0 0 0 c d h (by omega) (by omega) hK_w hI
  refine ⟨lwE i' s' t', c', d', h', ?_, e3_w, e4_w⟩
  rw [es_2, es_20, es_2, es_3, es_12, es_27, ee_1, ee_1]
  unfold s_seq
  show (((s_loop (evE xs L g_ck F g_cW fwC) (evS xs L g_ck F K g_cW (sx 20 (sx 19 fwS C z0) z0 z0)) (evS xs L g_ck F K g_cW fwP) K (lwE 0 0 0) ((a_g3, c, d), h)).bind _)) = _
  rw [e1_w]
  rfl
end LAWL
end
section
/-! ===== what lasts from call to call, in both_w ===== -/
/-- the link and the reference's side_w -/
def Inv0 (h : XH) : Prop := Lnk h ∧ LQ h
section INV
variable {xs : Nat → Int} {L K n : Nat} {c d : Nat} {h h' h1 h2 : XH}
theorem ra_out {q : Nat} (hq : 203 ≤ q) : r_A q = (0, 0, []) := by
  unfold r_A
  rw [show Nat.ble 183 q = true from Nat.ble_eq.mpr (by omega)]
  rw [cond_true]
  rw [List.getD_eq_getElem?_getD, List.getElem?_eq_none (by have : r_As.length = 20 := rfl; omega)]
  rfl
/-- the reference's side_w asks_w for_w its own_w cells_w alone_w -/
theorem LQ.kp (hH : HT g_fk a_g3 h') (hk : ∀ o k : Nat, 182 ≤ o → o < 203 → h' o k = h o k) (hq : LQ h) : LQ h' := by
  obtain ⟨P, hQ, hD, h0, h1⟩ := hq
  have eo : ∀ o : Nat, 182 ≤ o → o < 203 → h' o = h o := fun o a b => funext fun k => hk o k a b
  refine ⟨P, ⟨hH, fun k => ?_, fun q hq => ?_, ?_⟩, ?_, ?_, ?_⟩
  · rw [hk 182 k (by decide) (by decide)]
    exact hQ.2.1 k
  · by_cases hi_w : q < 203
    · rw [eo q (by omega) hi_w]
      exact hQ.2.2.1 q hq
    · intro r hr
      have e : qA (r_T 0) q = (0, 0, []) := ra_out (by omega)
      rw [e] at hr
      cases hr
  · have hj := hQ.2.2.2
    unfold RJ at hj ⊢
    rw [eo 188 (by decide) (by decide), eo 189 (by decide) (by decide), eo 191 (by decide) (by decide)]
    exact hj
  · unfold DG
    rw [eo 188 (by decide) (by decide)]
    exact hD
  · rw [hk 182 12 (by decide) (by decide)]
    exact h0
  · rw [hk 182 12 (by decide) (by decide)]
    exact h1
def r_nf (r : Nat) : Bool := m_in r && !(m_W r).1.contains 2 && !(m_W r).1.contains 12 && !(m_W r).2.contains 182 && !(m_W r).2.contains 2
/-- a call of the reference_w behind_w its parser -/
theorem ref_inv (hK2 : 20000000000 ≤ K) (hn : n < 99999) {r : Nat} (hd_w : r_dp r < n) (hf : r_nf r = true) {vs : List Int} (hv : ∀ P, IL P (qP (r_T 0) r) (182 :: vs)) (hI : Inv0 h) : ∃ v h', evF xs L g_ck K g_cW g_M n r (182 :: vs) ((a_g3, c, d), h) = some (1, v, ((a_g3, c, d), h')) ∧ Inv0 h' ∧ Fr (m_W r) h h' := by
  obtain ⟨⟨hH, m0_w, m1_w, hm_w⟩, P, hQ, hD, k0_w, k1_w⟩ := hI
  simp only [r_nf, Bool.and_eq_true, Bool.not_eq_true'] at hf
  obtain ⟨⟨⟨⟨f1_w, f2_w⟩, f3_w⟩, f4_w⟩, f5_w⟩ := hf
  obtain ⟨v, h', e1_w, e2_w, e3_w, -, -⟩ := r_ref (P := P) (g := (c, d)) (xs := xs) (L := L) (ck := g_ck) (cW := g_cW) hK2 hd_w hn (182 :: vs) h hQ (hv P)
  obtain ⟨-, fr⟩ := fr_all n r (182 :: vs) _ _ _ _ _ _ f1_w rfl (Or.inr rfl) e1_w
  have q2_w : h' 182 2 = h 182 2 := fr 182 2 (fun _ => f2_w) f4_w
  have q12_w : h' 182 12 = h 182 12 := fr 182 12 (fun _ => f3_w) f4_w
  have qt : h' 2 1 = h 2 1 := fr 2 1 (fun z => absurd z (by decide)) f5_w
  refine ⟨v, h', e1_w, ⟨⟨e2_w.1, by rw [qt]; exact m0_w, by rw [qt]; exact m1_w, by rw [q2_w, qt]; exact hm_w⟩, P, e2_w, ?_, by rw [q12_w]; exact k0_w, by rw [q12_w]; exact k1_w⟩, fr⟩
  have e8 : h' 188 = h 188 := funext fun k => e3_w 188 k rfl
  unfold DG
  rw [e8]
  exact hD
/-- a call of both_w -/
theorem pair_inv (hK2 : 20000000000 ≤ K) (hn : n < 99999) {f r : Nat} (hd_w : g_dp f < n) (ht : g_THR f = false) (hr : r_dp r < n) (hf : r_nf r = true) {vs ws_w : List Int} (ha_w : VL (fun _ => 0) a_g3 ((g_T 0).2.1 f) vs) (hv : ∀ P, IL P (qP (r_T 0) r) (182 :: ws_w)) (hI : Inv0 h) : ∃ (v1_w v2 : List Int) (h1 h2 : XH), evF xs L g_ck K g_cW g_M n f vs ((a_g3, c, d), h) = some (1, v1_w, ((a_g3, c, d), h1)) ∧ evF xs L g_ck K g_cW g_M n r (182 :: ws_w) ((a_g3, c, d), h1) = some (1, v2, ((a_g3, c, d), h2)) ∧ Inv0 h2 := by
  obtain ⟨cc, v1_w, g', h1, e1_w, e2_w, e3_w, e4_w⟩ := cls_lnk (xs := xs) (L := L) (K := K) (c := c) (d := d) (n := n) (f := f) (by omega) hd_w (by omega) hI.1 ha_w
  have hI1 : Inv0 h1 := ⟨e2_w, hI.2.kp e2_w.1 (fun o k a _ => e3_w o k a)⟩
  rcases e4_w with ⟨rfl, rfl, -⟩ | ⟨-, z, -⟩
  · obtain ⟨v2, h2, f1_w, f2_w, -⟩ := ref_inv (xs := xs) (L := L) (c := c) (d := d) hK2 hn hr hf hv hI1
    exact ⟨v1_w, v2, h1, h2, e1_w, f1_w, f2_w⟩
  · rw [ht] at z
    cases z
theorem c_203 : ∀ k, c_ty g_fk a_g3 203 k = 2 := by
  obtain ⟨c', h, e⟩ := kd_ty (q := 203) (kd := 7) (by decide +kernel)
  exact fun k => (ty_arr h k).2.1 e
theorem in_il {v : Int} (h : InI v) : InL v := ⟨by have := h.1; omega, by have := h.2; omega⟩
theorem out_inv (hI : Inv0 h) {v : Int} (hv : InI v) : Inv0 (j_up h 203 0 v) := by
  have hH : HT g_fk a_g3 (j_up h 203 0 v) := hI.1.1.up (fun e => absurd ((c_203 0).symm.trans e) (by decide)) (fun _ => in_il hv) (fun e => absurd ((c_203 0).symm.trans e) (by decide))
  have u : ∀ o k : Nat, o ≠ 203 → j_up h 203 0 v o k = h o k := fun o k e => up_ne (fun z => e z.1)
  refine ⟨⟨hH, ?_, ?_, ?_⟩, hI.2.kp hH (fun o k _ b => u o k (by omega))⟩
  · rw [u 2 1 (by decide)]; exact hI.1.2.1
  · rw [u 2 1 (by decide)]; exact hI.1.2.2.1
  · rw [u 2 1 (by decide), u 182 2 (by decide)]; exact hI.1.2.2.2
theorem chk_one : ((1 : Nat) = 1 ∨ (1 : Nat) = 4) ∧ c ≤ c + 1 ∧ d ≤ d + 6 ∧ (a_g3.map (·.1)).isPrefixOf (a_g3.map (·.1)) = true := ⟨Or.inl rfl, by omega, by omega, (chk_self (g := (a_g3, c, d))).2.2.2⟩
end INV
end
section
/-! ===== the tape is_w empty_w behind_w grid and work; feed, grid, work: both_w sides (written_w by wip/tools/lawz.py) ===== -/
def zR190 : SX := (sx 2 (sx 3 (sv 1) (sx 1 z0 (sv 1) z0) z0) (sx 2 (sx 3 (sv 2) (sx 1 z0 (sv 1) z0) z0) (sx 2 (sx 12 (sx 20 (sx 3 (sv 2) z0 z0) (sx 4 (sx 3 z0 z0 z0) (sv 3) z0) (sv 2)) (sx 20 (sx 2 (sx 3 (sv 3) (sx 7 (sx 5 (sx 3 z0 z0 z0) (sv 1) z0) (sx 3 (sv 2) z0 z0) z0) z0) (sx 2 (sx 10 (sx 26 (sx 20 (sx 3 (sv 3) z0 z0) (sx 1 (sv 10) (sv 1) z0) z0) (sx 20 (sx 3 (sv 3) z0 z0) (sx 1 (sv 32) (sv 1) z0) z0) z0) (sx 20 (sx 2 (sx 4 (sv 2) (sv 1) z0) (sx 15 z0 z0 z0) z0) z0 z0) z0) (sx 2 (sx 3 (sv 4) (sx 3 (sv 2) z0 z0) z0) (sx 2 (sx 3 (sv 5) (sx 1 z0 (sv 2) z0) z0) (sx 2 (sx 7 (sx 5 (sx 3 z0 z0 z0) (sv 5) z0) (sx 3 (sv 1) z0 z0) (so 6 (sx 3 (sv 2) z0 z0))) (sx 2 (sx 11 (sx 24 (sx 32 (sx 30 (sx 3 (sv 3) z0 z0) (sx 31 z0 z0 z0) z0) (sv 186) z0) z0 z0) (sx 20 (sx 2 (sx 12 (sx 25 (sx 20 (sx 3 (sv 2) z0 z0) (sx 4 (sx 3 z0 z0 z0) (sv 3) z0) (sv 2)) (sx 24 (sx 32 (sx 30 (sx 7 (sx 5 (sx 3 z0 z0 z0) (sv 1) z0) (sx 3 (sv 2) z0 z0) z0) (sx 31 z0 z0 z0) z0) (sv 186) z0) z0 z0) z0) (sx 20 (sx 2 (sx 3 (sv 5) (sx 28 (sx 20 (sx 14 (sx 3 (sv 2) z0 z0) (sx 3 (sv 4) z0 z0) (sv 1)) (sx 1 (sv 8) (sv 1) z0) (sv 2)) (sx 15 (sx 15 (sx 1 (sv 37) (sv 2) z0) (sx 3 (sv 5) z0 z0) (sv 2)) (sx 18 (sx 32 (sx 30 (sx 7 (sx 5 (sx 3 z0 z0 z0) (sv 1) z0) (sx 3 (sv 2) z0 z0) z0) (sx 31 z0 z0 z0) z0) (sv 188) z0) z0 (sv 2)) z0) (sx 3 (sv 5) z0 z0)) z0) (sx 4 (sv 2) (sv 1) z0) z0) z0 z0) (sx 1 z0 z0 z0)) (sx 7 (sx 5 (sx 3 z0 z0 z0) (sv 4) z0) (sx 3 (sv 1) z0 z0) (so 6 (sx 28 (sx 20 (sx 14 (sx 3 (sv 2) z0 z0) (sx 3 (sv 4) z0 z0) (sv 1)) (sx 1 (sv 8) (sv 1) z0) (sv 4)) (sx 1 (sv 4) (sv 1) z0) (sx 1 (sv 1) (sv 1) z0)))) z0) z0 z0) (sx 11 (sx 24 (sx 32 (sx 30 (sx 3 (sv 3) z0 z0) (sx 31 z0 z0 z0) z0) (sv 187) z0) z0 z0) (sx 20 (sx 2 (sx 12 (sx 25 (sx 20 (sx 3 (sv 2) z0 z0) (sx 4 (sx 3 z0 z0 z0) (sv 3) z0) (sv 2)) (sx 24 (sx 32 (sx 30 (sx 7 (sx 5 (sx 3 z0 z0 z0) (sv 1) z0) (sx 3 (sv 2) z0 z0) z0) (sx 31 z0 z0 z0) z0) (sv 187) z0) z0 z0) z0) (sx 20 (sx 2 (sx 3 (sv 5) (sx 28 (sx 20 (sx 14 (sx 3 (sv 2) z0 z0) (sx 3 (sv 4) z0 z0) (sv 1)) (sx 1 (sv 4) (sv 1) z0) (sv 2)) (sx 15 (sx 15 (sx 15 (sx 1 (sv 10) (sv 2) z0) (sx 3 (sv 5) z0 z0) (sv 2)) (sx 18 (sx 7 (sx 5 (sx 3 z0 z0 z0) (sv 1) z0) (sx 3 (sv 2) z0 z0) z0) z0 (sv 2)) z0) (sx 1 (sv 48) (sv 2) z0) (sv 1)) (sx 3 (sv 5) z0 z0)) z0) (sx 4 (sv 2) (sv 1) z0) z0) z0 z0) (sx 1 z0 z0 z0)) (sx 7 (sx 5 (sx 3 z0 z0 z0) (sv 4) z0) (sx 3 (sv 1) z0 z0) (so 6 (sx 28 (sx 20 (sx 14 (sx 3 (sv 2) z0 z0) (sx 3 (sv 4) z0 z0) (sv 1)) (sx 1 (sv 4) (sv 1) z0) (sv 4)) (sx 1 (sv 4) (sv 1) z0) (sx 1 (sv 2) (sv 1) z0)))) z0) z0 z0) (sx 20 (sx 2 (sx 3 (sv 5) (sx 18 (sx 3 (sv 3) z0 z0) z0 (sv 2)) z0) (sx 2 (sx 7 (sx 5 (sx 3 z0 z0 z0) (sv 4) z0) (sx 3 (sv 1) z0 z0) (so 6 (sx 28 (sx 24 (sx 32 (sx 30 (sx 3 (sv 3) z0 z0) (sx 31 z0 z0 z0) z0) (sv 189) z0) z0 z0) (sx 1 (sv 3) (sv 1) z0) (sx 1 (sv 4) (sv 1) z0)))) (sx 4 (sv 2) (sv 1) z0) z0) z0) z0 z0))) (sx 2 (sx 7 (sx 5 (sx 3 z0 z0 z0) (sv 6) z0) (sx 3 (sv 1) z0 z0) (so 7 (sx 3 (sv 5) z0 z0))) (sx 4 (sv 1) (sv 1) z0) z0) z0) z0) z0) z0) z0) z0) z0 z0) (sx 1 z0 z0 z0)) (sx 2 (sx 7 (sx 5 (sx 3 z0 z0 z0) (sv 4) z0) (sx 3 (sv 1) z0 z0) (so 6 (sx 1 z0 (sv 1) z0))) (sx 2 (sx 7 (sx 5 (sx 3 z0 z0 z0) (sv 5) z0) (sx 3 (sv 1) z0 z0) (so 6 (sx 4 (sx 3 z0 z0 z0) (sv 3) z0))) (sx 2 (sx 5 (sx 3 z0 z0 z0) (sx 1 z0 (sv 1) z0) (sv 7)) (sx 5 (sx 3 z0 z0 z0) (sx 1 z0 (sv 1) z0) (sv 8)) z0) z0) z0) z0) z0) z0)
def zR206 : SX := (sx 2 (sx 5 (sx 3 z0 z0 z0) (sx 1 z0 (sv 1) z0) (sv 12)) (sx 2 (sx 9 (sx 32 (sx 30 (sx 3 z0 z0 z0) (sx 30 (sx 1 (sv 95) (sv 1) z0) (sx 31 z0 z0 z0) z0) z0) (sv 199) z0) z0 z0) (sx 2 (sx 12 (sx 25 (sx 21 (sx 4 (sx 3 z0 z0 z0) (sv 8) z0) z0 z0) (sx 21 (sx 7 (sx 5 (sx 3 z0 z0 z0) (sv 4) z0) (sx 4 (sx 3 z0 z0 z0) (sv 7) z0) z0) z0 (sv 1)) z0) (sx 20 (sx 2 (sx 9 (sx 32 (sx 30 (sx 3 z0 z0 z0) (sx 31 z0 z0 z0) z0) (sv 210) z0) z0 z0) (sx 9 (sx 32 (sx 30 (sx 3 z0 z0 z0) (sx 30 (sx 1 (sv 59) (sv 1) z0) (sx 31 z0 z0 z0) z0) z0) (sv 194) z0) z0 z0) z0) z0 z0) (sx 1 z0 z0 z0)) (sx 2 (sx 10 (sx 21 (sx 4 (sx 3 z0 z0 z0) (sv 8) z0) z0 (sv 4)) (sx 20 (sx 16 (sx 4 (sx 3 z0 z0 z0) (sv 8) z0) z0 z0) z0 z0) z0) (sx 2 (sx 20 (sx 2 (sx 3 (sv 1) (sx 1 z0 (sv 1) z0) z0) (sx 12 (sx 20 (sx 3 (sv 1) z0 z0) (sx 1 (sv 95) (sv 1) z0) (sv 2)) (sx 20 (sx 7 (sx 5 (sx 3 z0 z0 z0) (sv 10) z0) (sx 3 (sv 1) z0 z0) (so 6 (sx 7 (sx 5 (sx 3 z0 z0 z0) (sv 10) z0) (sx 14 (sx 1 (sv 95) (sv 1) z0) (sx 3 (sv 1) z0 z0) z0) z0))) z0 z0) (sx 4 (sv 1) (sv 1) z0)) z0) z0 z0) (sx 2 (sx 20 (sx 2 (sx 3 (sv 1) (sx 1 z0 (sv 1) z0) z0) (sx 12 (sx 20 (sx 3 (sv 1) z0 z0) (sx 4 (sx 3 z0 z0 z0) (sv 12) z0) (sv 2)) (sx 20 (sx 7 (sx 5 (sx 3 z0 z0 z0) (sv 11) z0) (sx 3 (sv 1) z0 z0) (so 6 (sx 7 (sx 5 (sx 3 z0 z0 z0) (sv 11) z0) (sx 14 (sx 1 (sv 1100) (sv 1) z0) (sx 3 (sv 1) z0 z0) z0) z0))) z0 z0) (sx 4 (sv 1) (sv 1) z0)) z0) z0 z0) (sx 2 (sx 20 (sx 2 (sx 3 (sv 1) (sx 1 z0 (sv 1) z0) z0) (sx 12 (sx 20 (sx 3 (sv 1) z0 z0) (sx 1 (sv 14) (sv 1) z0) (sv 2)) (sx 20 (sx 7 (sx 5 (sx 3 z0 z0 z0) (sv 13) z0) (sx 3 (sv 1) z0 z0) (so 7 (sx 7 (sx 5 (sx 3 z0 z0 z0) (sv 13) z0) (sx 14 (sx 1 (sv 14) (sv 1) z0) (sx 3 (sv 1) z0 z0) z0) z0))) z0 z0) (sx 4 (sv 1) (sv 1) z0)) z0) z0 z0) (sx 2 (sx 9 (sx 32 (sx 30 (sx 3 z0 z0 z0) (sx 31 z0 z0 z0) z0) (sv 241) z0) z0 z0) (sx 16 (sx 1 z0 (sv 1) z0) z0 z0) z0) z0) z0) z0) z0) z0) z0) z0)
def zR214 : SX := (sx 2 (sx 3 (sv 1) (sx 1 z0 (sv 1) z0) z0) (sx 2 (sx 12 (sx 25 (sx 21 (sx 4 (sx 3 z0 z0 z0) (sv 8) z0) z0 z0) (sx 21 (sx 7 (sx 5 (sx 3 z0 z0 z0) (sv 4) z0) (sx 4 (sx 3 z0 z0 z0) (sv 7) z0) z0) z0 (sv 1)) z0) (sx 20 (sx 2 (sx 3 (sv 2) (sx 32 (sx 30 (sx 3 z0 z0 z0) (sx 30 (sx 1 (sv 9) (sv 1) z0) (sx 30 (sx 1 (sv 4) (sv 1) z0) (sx 31 z0 z0 z0) z0) z0) z0) (sv 201) z0) z0) (sx 2 (sx 11 (sx 21 (sx 3 (sv 2) z0 z0) z0 (sv 2)) (sx 20 (sx 9 (sx 32 (sx 30 (sx 3 z0 z0 z0) (sx 30 (sx 1 (sv 1) (sv 1) z0) (sx 31 z0 z0 z0) z0) z0) (sv 191) z0) z0 z0) z0 z0) (sx 11 (sx 20 (sx 3 (sv 1) z0 z0) (sx 1 (sv 30) (sv 1) z0) z0) (sx 20 (sx 9 (sx 32 (sx 30 (sx 3 z0 z0 z0) (sx 30 (sx 1 (sv 5) (sv 1) z0) (sx 31 z0 z0 z0) z0) z0) (sv 191) z0) z0 z0) z0 z0) (sx 20 (sx 2 (sx 6 (sx 3 z0 z0 z0) (sx 1 (sv 1) (sv 1) z0) (sv 112)) (sx 2 (sx 9 (sx 32 (sx 30 (sx 3 z0 z0 z0) (sx 30 (sx 14 (sx 1 (sv 125) (sv 1) z0) (sx 14 (sx 1 (sv 4) (sv 1) z0) (sx 3 (sv 1) z0 z0) (sv 2)) z0) (sx 30 (sx 3 (sv 2) z0 z0) (sx 31 z0 z0 z0) z0) z0) z0) (sv 215) z0) z0 z0) (sx 4 (sv 1) (sv 1) z0) z0) z0) z0 z0))) (sx 9 (sx 32 (sx 30 (sx 3 z0 z0 z0) (sx 30 (sx 1 (sv 59) (sv 1) z0) (sx 31 z0 z0 z0) z0) z0) (sv 194) z0) z0 z0) z0) z0) z0 z0) (sx 1 z0 z0 z0)) (sx 2 (sx 10 (sx 21 (sx 4 (sx 3 z0 z0 z0) (sv 8) z0) z0 (sv 4)) (sx 20 (sx 16 (sx 4 (sx 3 z0 z0 z0) (sv 8) z0) z0 z0) z0 z0) z0) (sx 2 (sx 7 (sx 5 (sx 3 z0 z0 z0) (sv 14) z0) (sx 1 z0 (sv 1) z0) (so 6 (sx 3 (sv 1) z0 z0))) (sx 2 (sx 20 (sx 2 (sx 3 (sv 2) (sx 1 z0 (sv 1) z0) z0) (sx 12 (sx 20 (sx 3 (sv 2) z0 z0) (sx 14 (sx 1 (sv 4) (sv 1) z0) (sx 3 (sv 1) z0 z0) (sv 2)) (sv 2)) (sx 20 (sx 7 (sx 5 (sx 3 z0 z0 z0) (sv 14) z0) (sx 14 (sx 1 (sv 1) (sv 1) z0) (sx 3 (sv 2) z0 z0) z0) (so 6 (sx 7 (sx 5 (sx 3 z0 z0 z0) (sv 14) z0) (sx 14 (sx 1 (sv 125) (sv 1) z0) (sx 3 (sv 2) z0 z0) z0) z0))) z0 z0) (sx 4 (sv 2) (sv 1) z0)) z0) z0 z0) (sx 16 (sx 1 z0 (sv 1) z0) z0 z0) z0) z0) z0) z0) z0)
def zW : List Nat × List Nat := ([0, 3, 7, 8, 12, 18, 19], [184, 185, 186, 188, 189, 190, 191, 194, 195])
theorem zb_190 : bb_190 = sx 2 (sx 2 (sx 5 (sx 3 z0 z0 z0) (sx 4 (sx 3 z0 z0 z0) (sv 2) z0) (sv 3)) (sx 2 (sx 5 (sx 3 z0 z0 z0) (sx 1 z0 (sv 1) z0) (sv 2)) zR190 z0) z0) (sx 17 z0 z0 z0) z0 := rfl
theorem zb_206 : bb_206 = sx 2 (sx 5 (sx 3 z0 z0 z0) (sx 1 z0 (sv 1) z0) z0) (sx 2 (sx 9 (sx 32 (sx 30 (sx 3 z0 z0 z0) (sx 31 z0 z0 z0) z0) (sv 190) z0) z0 z0) zR206 z0) z0 := rfl
theorem zb_214 : bb_214 = sx 2 (sx 5 (sx 3 z0 z0 z0) (sx 1 z0 (sv 1) z0) z0) (sx 2 (sx 9 (sx 32 (sx 30 (sx 3 z0 z0 z0) (sx 31 z0 z0 z0) z0) (sv 190) z0) z0 z0) zR214 z0) z0 := rfl
theorem zf_190 : (fr_S m_W m_in m_st false zW zR190).1 = true := by decide +kernel
theorem zf_206 : (fr_S m_W m_in m_st false zW zR206).1 = true := by decide +kernel
theorem zf_214 : (fr_S m_W m_in m_st false zW zR214).1 = true := by decide +kernel
section ZZ
variable {xs : Nat → Int} {L K n : Nat} {c d : Nat} {h h' : XH} {g g' : XS × Nat × Nat}
theorem z_R {R : SX} (hR : (fr_S m_W m_in m_st false zW R).1 = true) {en : List Int} {cc : Nat} {vs en' : List Int} (hg : g.1 = a_g3) (ht : en.getD 0 0 = 182) (z : h 182 2 = 0) (e : evS xs L g_ck (evF xs L g_ck K g_cW g_M n) K g_cW R en (g, h) = some (cc, vs, en', (g', h'))) : h' 182 2 = 0 := by
  obtain ⟨-, fr, -⟩ := (fr_S_ok (fr_all n) R).1 hR en g h cc vs en' g' h' hg (Or.inr ht) e
  rw [fr 182 2 (fun _ => by decide) (by decide)]
  exact z
theorem put_ev {F : XP} {e : SX} {k : Nat} {v : Int} {en : List Int} (ht : en.getD 0 0 = 182) (he : evE xs L g_ck F g_cW e en (g, h) = some ([v], (g, h))) : evS xs L g_ck F K g_cW (sx 5 (sx 3 z0 z0 z0) e (sv k)) en (g, h) = some (0, [], en, (g, j_up h 182 k v)) := by
  rw [es_5]
  unfold s_putf
  rw [ee_3]
  show ((evE xs L g_ck F g_cW e en (g, h)).bind fun y => some (0, [], en, (y.2.1, j_up y.2.2 (en.getD 0 0).toNat k (j_hd y.1)))) = _
  rw [he, ht]
  rfl
theorem put_ev0 {F : XP} {e : SX} {v : Int} {en : List Int} (ht : en.getD 0 0 = 182) (he : evE xs L g_ck F g_cW e en (g, h) = some ([v], (g, h))) : evS xs L g_ck F K g_cW (sx 5 (sx 3 z0 z0 z0) e z0) en (g, h) = some (0, [], en, (g, j_up h 182 0 v)) := by
  rw [es_5]
  unfold s_putf
  rw [ee_3]
  show ((evE xs L g_ck F g_cW e en (g, h)).bind fun y => some (0, [], en, (y.2.1, j_up y.2.2 (en.getD 0 0).toNat 0 (j_hd y.1)))) = _
  rw [he, ht]
  rfl
theorem seq_0 {A B : XR} {en en1 : List Int} {st st1_w : XT} {vs : List Int} (ha_w : A en st = some (0, vs, en1, st1_w)) : s_seq A B en st = B en1 st1_w := by
  unfold s_seq
  rw [ha_w]
  rfl
theorem z_190 {cc : Nat} {r : List Int} (hg : g.1 = a_g3) (e : evF xs L g_ck K g_cW g_M (n + 1) 190 [182] (g, h) = some (cc, r, (g', h'))) : h' 182 2 = 0 := by
  unfold evF at e
  rw [gm_190] at e
  obtain ⟨⟨c1_w, v1_w, en1, g1, h1⟩, e1_w, e2_w⟩ := j_bd e
  have e1' : evS xs L g_ck (evF xs L g_ck K g_cW g_M n) K g_cW bb_190 [182, 0, 0, 0, 0, 0, 0] (g, h) = some (c1_w, v1_w, en1, (g1, h1)) := e1_w
  have hh : h1 = h' := by
    dsimp only at e2_w
    split at e2_w
    · cases e2_w
      rfl
    · cases e2_w
  subst hh
  rw [zb_190, es_2, es_2, es_2] at e1'
  obtain ⟨⟨c2, v2, en2, g2, h2⟩, e3_w, e4_w⟩ := j_bd e1'
  rw [seq_0 (put_ev rfl rfl), seq_0 (put_ev rfl rfl)] at e3_w
  have z2 : h2 182 2 = 0 := z_R zf_190 hg rfl up_eq e3_w
  dsimp only at e4_w
  split at e4_w
  · cases e4_w
    exact z2
  · cases e4_w
    exact z2
theorem z_gw {q : Nat} {R : SX} {ml_w : Nat} {cc : Nat} {r en : List Int} (hq : g_M q = (0, ml_w, [20], [1], sx 2 (sx 5 (sx 3 z0 z0 z0) (sx 1 z0 (sv 1) z0) z0) (sx 2 (sx 9 (sx 32 (sx 30 (sx 3 z0 z0 z0) (sx 31 z0 z0 z0) z0) (sv 190) z0) z0 z0) R z0) z0)) (hen : j_pad 0 ml_w (j_lay [20] [182]) = en) (ht : en.getD 0 0 = 182) (hR : (fr_S m_W m_in m_st false zW R).1 = true) (hg : g.1 = a_g3) (e : evF xs L g_ck K g_cW g_M (n + 2) q [182] (g, h) = some (cc, r, (g', h'))) : h' 182 2 = 0 := by
  unfold evF at e
  rw [hq] at e
  obtain ⟨⟨c1_w, v1_w, en1, g1, h1⟩, e1_w, e2_w⟩ := j_bd e
  have hh : h1 = h' := by
    dsimp only at e2_w
    split at e2_w
    · cases e2_w
      rfl
    · cases e2_w
  subst hh
  dsimp only at e1_w
  rw [hen, es_2, es_2, seq_0 (put_ev0 ht rfl)] at e1_w
  obtain ⟨⟨c2, v2, en2, g2, h2⟩, e3_w, e4_w⟩ := j_bd e1_w
  rw [es_9, ee_32] at e3_w
  obtain ⟨⟨v3, g3_w, h3⟩, e5_w, e6_w⟩ := j_bd e3_w
  have e5' : (evF xs L g_ck K g_cW g_M (n + 1) 190 [en.getD 0 0] (g, j_up h 182 0 0)).bind (fun r => if r.1 = 1 then some r.2 else none) = some (v3, (g3_w, h3)) := e5_w
  rw [ht] at e5'
  obtain ⟨⟨c7, v7, g7, h7⟩, e8, e9_w⟩ := j_bd e5'
  have z7 : h7 182 2 = 0 := z_190 hg e8
  obtain ⟨hg7, -⟩ := fr_all (n + 1) 190 [182] _ _ _ _ _ _ (by decide) hg (Or.inr rfl) e8
  have k7 : (v7, (g7, h7)) = (v3, (g3_w, h3)) := by
    dsimp only at e9_w
    split at e9_w
    · exact Option.some.inj e9_w
    · cases e9_w
  cases k7
  dsimp only at e6_w
  cases e6_w
  exact z_R hR hg7 ht z7 e4_w
theorem z_206 {cc : Nat} {r : List Int} (hg : g.1 = a_g3) (e : evF xs L g_ck K g_cW g_M (n + 2) 206 [182] (g, h) = some (cc, r, (g', h'))) : h' 182 2 = 0 := z_gw (gm_206.trans (by rw [zb_206])) rfl rfl zf_206 hg e
theorem z_214 {cc : Nat} {r : List Int} (hg : g.1 = a_g3) (e : evF xs L g_ck K g_cW g_M (n + 2) 214 [182] (g, h) = some (cc, r, (g', h'))) : h' 182 2 = 0 := z_gw (gm_214.trans (by rw [zb_214])) rfl rfl zf_214 hg e
theorem c_190 {P : Int × Int} {gg : Nat × Nat} (hK_w : 4294967300 ≤ K) : G190 P gg (evF xs L g_ck K g_cW g_M (n + 40)) := g_190 (n := n + 39) hK_w (g_186 (n := n + 38)) (g_187 (n := n + 38)) (g_188 (n := n + 38) (g_186 (n := n + 37))) (g_189 (n := n + 38))
theorem grid_inv (hK2 : 20000000000 ≤ K) (hn : n + 41 < 99999) (hI : Inv0 h) : ∃ (v1_w v2 : List Int) (h1 h2 : XH), evF xs L g_ck K g_cW g_M (n + 41) 2 [0] ((a_g3, c, d), h) = some (1, v1_w, ((a_g3, c, d), h1)) ∧ evF xs L g_ck K g_cW g_M (n + 41) 206 [182] ((a_g3, c, d), h1) = some (1, v2, ((a_g3, c, d), h2)) ∧ Inv0 h2 := by
  obtain ⟨v, h1, e1_w, e2_w, e3_w, e4_w⟩ := grid_ok (xs := xs) (L := L) (K := K) (c := c) (d := d) (n := n + 40) (by omega) (by omega) hI.1.1
  obtain ⟨P, hQ, hD, k0_w, k1_w⟩ := hI.2.kp e2_w (fun o k a _ => e4_w o k a)
  obtain ⟨r, h2, f1_w, w, -, -, f2_w⟩ := p_206 (P := P) (g := (c, d)) (xs := xs) (L := L) (K := K) (n := n) (ck := g_ck) (cW := g_cW) hK2 (c_190 (K := K) (by omega)) hQ hD k0_w k1_w
  have z : h2 182 2 = 0 := z_206 (n := n + 39) rfl f1_w
  obtain ⟨-, fr⟩ := fr_all (n + 41) 206 [182] _ _ _ _ _ _ (by decide) rfl (Or.inr rfl) f1_w
  have qt : h2 2 1 = 0 := (fr 2 1 (fun z => absurd z (by decide)) (by decide)).trans e3_w
  have hH : HT g_fk a_g3 h2 := by
    obtain ⟨P'_w, q, -⟩ := f2_w
    exact q.1
  exact ⟨[v], r, h1, h2, e1_w, f1_w, ⟨hH, by rw [qt]; decide, by rw [qt]; decide, by rw [z, qt]⟩, f2_w⟩
theorem work_inv (hK2 : 20000000000 ≤ K) (hn : n + 41 < 99999) (hI : Inv0 h) : ∃ (v1_w v2 : List Int) (h1 h2 : XH), evF xs L g_ck K g_cW g_M (n + 41) 4 [0] ((a_g3, c, d), h) = some (1, v1_w, ((a_g3, c, d), h1)) ∧ evF xs L g_ck K g_cW g_M (n + 41) 214 [182] ((a_g3, c, d), h1) = some (1, v2, ((a_g3, c, d), h2)) ∧ Inv0 h2 := by
  obtain ⟨v, h1, e1_w, e2_w, e3_w, e4_w⟩ := work_ok (xs := xs) (L := L) (K := K) (c := c) (d := d) (n := n + 40) (by omega) (by omega) hI.1.1
  obtain ⟨P, hQ, hD, k0_w, k1_w⟩ := hI.2.kp e2_w (fun o k a _ => e4_w o k a)
  obtain ⟨r, h2, f1_w, w, -, -, f2_w, f3_w, f4_w, f5_w⟩ := p_214 (P := P) (g := (c, d)) (xs := xs) (L := L) (K := K) (n := n) (ck := g_ck) (cW := g_cW) hK2 hn (c_190 (K := K) (by omega)) hQ hD k0_w k1_w
  have z : h2 182 2 = 0 := z_214 (n := n + 39) rfl f1_w
  obtain ⟨-, fr⟩ := fr_all (n + 41) 214 [182] _ _ _ _ _ _ (by decide) rfl (Or.inr rfl) f1_w
  have qt : h2 2 1 = 0 := (fr 2 1 (fun z => absurd z (by decide)) (by decide)).trans e3_w
  exact ⟨[v], r, h1, h2, e1_w, f1_w, ⟨f2_w.1, by rw [qt]; decide, by rw [qt]; decide, by rw [z, qt]⟩, P, f2_w, f3_w, f4_w, f5_w⟩
theorem feed_inv (hK_w : 4294967300 ≤ K) {a b e : Int} (hI : Inv0 h) : ∃ (v : Int) (h1 h2 : XH), evF xs L g_ck K g_cW g_M (n + 2) 1 [0, a, b, e] ((a_g3, c, d), h) = some (1, [v], ((a_g3, c, d), h1)) ∧ evF xs L g_ck K g_cW g_M (n + 2) 183 [182, a, b, e] ((a_g3, c, d), h1) = some (1, [v], ((a_g3, c, d), h2)) ∧ Inv0 h2 := by
  obtain ⟨v, h1, h2, e1_w, f1_w, hL⟩ := feed_ok (xs := xs) (L := L) (K := K) (c := c) (d := d) (n := n) (a := a) (b := b) (e := e) hK_w hI.1
  obtain ⟨hH, m0_w, m1_w, hm_w⟩ := hI.1
  obtain ⟨h1', e1', -, e3_w⟩ := fqA (xs := xs) (L := L) (ck := g_ck) (cW := g_cW) (K := K) (n := n) (a := a) (b := b) (c := e) (g := (a_g3, c, d)) (h := h) (by omega) fg_1 fg_2 fg_3 fg_4 (by decide) rfl ⟨m0_w, m1_w⟩
  have u1 : h1' = h1 := by
    have t := e1'.symm.trans e1_w
    cases t
    rfl
  subst u1
  have k1_w : KeptC h h1' := e3_w (fun x => KeptC h x) (fun x m s p => by
    unfold upA
    split
    · intro o k ho
      have t2_w : (2 : Int).toNat = 2 := rfl
      have t3_w : (3 : Int).toNat = 3 := rfl
      rw [up_ne (fun z => by have := z.1; omega), up_ne (fun z => by have := z.1; omega)]
      exact p o k ho
    · exact p) (fun _ _ _ => rfl)
  obtain ⟨h2', f1', -, f3_w⟩ := fqM (xs := xs) (L := L) (ck := g_ck) (cW := g_cW) (K := K) (n := n) (a := a) (b := b) (c := e) (g := (a_g3, c, d)) (h := h1') (by omega) fg_5 fg_6 (by decide) (show h1' (182 : Int).toNat 2 = h 2 1 from (k1_w 182 2 (Nat.le_refl _)).trans hm_w) ⟨m0_w, m1_w⟩
  have u2_w : h2' = h2 := by
    have t := f1'.symm.trans f1_w
    cases t
    rfl
  subst u2_w
  have hI1 : LQ h1' := hI.2.kp (by
    have t := e3_w _ kpA_HT hH
    exact t) (fun o k q _ => k1_w o k q)
  obtain ⟨P, hQ, hD, c0, c1_w⟩ := hI1
  have key_w := f3_w (fun x => (∀ o k : Nat, 182 ≤ o → (o = 182 → k ≠ 0 ∧ k ≠ 2) → o ≠ 183 → x o k = h1' o k) ∧ (∀ i : Nat, i < 1000 → IV P (1, 0, 255) (x 183 i)) ∧ x 182 0 = 0) (fun x m s hs p => by
    unfold upM
    split
    · rename_i hr
      have hs2 : 0 ≤ s ∧ s ≤ 255 := by
        unfold rdB j_b at hr
        by_cases t1_w : s = 10
        · omega
        · by_cases t2_w : 32 ≤ s ∧ s ≤ 126
          · omega
          · have t3_w : (decide (s = 10) || (decide (32 ≤ s) && decide (s ≤ 126))) = false := by
              rw [decide_eq_false t1_w, Bool.false_or, Bool.and_eq_false_iff, decide_eq_false_iff_not, decide_eq_false_iff_not]
              omega
            rw [t3_w] at hr
            exact absurd hr (by decide)
      have t2_w : (182 : Int).toNat = 182 := rfl
      have t3_w : (183 : Int).toNat = 183 := rfl
      rw [t2_w, t3_w]
      refine ⟨fun o k ho h1 h2 => ?_, fun i hi_w => ?_, ?_⟩
      · rw [up_ne (fun z => (h1 z.1).2 z.2), up_ne (fun z => h2 z.1)]
        exact p.1 o k ho h1 h2
      · rw [up_ne (fun z => absurd z.1 (by decide))]
        by_cases t : i = m.toNat
        · subst t
          rw [up_eq]
          exact ⟨hs2.1, hs2.2, hs⟩
        · rw [up_ne (fun z => t z.2)]
          exact p.2.1 i hi_w
      · rw [up_ne (fun z => absurd z.2 (by decide)), up_ne (fun z => absurd z.1 (by decide))]
        exact p.2.2
    · exact p) ⟨fun o k ho q1_w q2_w => up_ne (fun z => by
        have t2_w : (182 : Int).toNat = 182 := rfl
        exact (q1_w (z.1.trans t2_w)).1 z.2), fun i hi_w => by
        rw [up_ne (fun z => absurd z.1 (by decide))]
        have t := hQ.2.2.1 183 (by decide) (0, 1000, (1, 0, 255)) List.mem_cons_self i 0 (Nat.zero_le _) hi_w (by decide)
        have u : (qA (r_T 0) 183).2.1 * 0 + i = i := by rw [Nat.mul_zero, Nat.zero_add]
        rw [u] at t
        exact t, up_eq⟩
  obtain ⟨p1_w, p2_w, p3_w⟩ := key_w
  have eo : ∀ o : Nat, 183 < o → h2' o = h1' o := fun o a => funext fun k => p1_w o k (by omega) (fun z => by omega) (by omega)
  refine ⟨v, h1', h2', e1_w, f1_w, hL, P, ⟨hL.1, fun k => ?_, fun q hq => ?_, ?_⟩, ?_, ?_, ?_⟩
  · by_cases t0_w : k = 0
    · subst t0_w
      rw [p3_w]
      exact ⟨by decide, by decide, in_0⟩
    · by_cases t2_w : k = 2
      · subst t2_w
        have l1 := hL.2.1
        have l2 := hL.2.2.1
        have l3 := hL.2.2.2
        exact ⟨by omega, by omega, ⟨by omega, by omega⟩⟩
      · rw [p1_w 182 k (by decide) (fun _ => ⟨t0_w, t2_w⟩) (by decide)]
        exact hQ.2.1 k
  · by_cases t : q = 183
    · subst t
      intro x hx i j j1 j2_w j3_w
      have ex_w : x = (0, 1000, (1, 0, 255)) := by
        have : x ∈ [(0, 1000, ((1, 0, 255) : IT))] := hx
        exact List.mem_singleton.mp this
      subst ex_w
      have u : (qA (r_T 0) 183).2.1 * j + i = i := by
        show 0 * j + i = i
        rw [Nat.zero_mul, Nat.zero_add]
      rw [u]
      exact p2_w i j2_w
    · rw [eo q (by omega)]
      exact hQ.2.2.1 q hq
  · have hj := hQ.2.2.2
    unfold RJ at hj ⊢
    rw [eo 188 (by decide), eo 189 (by decide), eo 191 (by decide)]
    exact hj
  · unfold DG
    rw [eo 188 (by decide)]
    exact hD
  · rw [p1_w 182 12 (by decide) (fun _ => ⟨by decide, by decide⟩) (by decide)]
    exact c0
  · rw [p1_w 182 12 (by decide) (fun _ => ⟨by decide, by decide⟩) (by decide)]
    exact c1_w
end ZZ
end
section
/-! ===== what lasts holds_w at the beginning ===== -/
def i_ok : Sum Int Nat → Bool
  | .inl _ => true
  | .inr _ => false
def i_va : Sum Int Nat → Int
  | .inl v => v
  | .inr _ => 0
def i0 (o k : Nat) : Int := i_va (lookH a_h3 o k)
/-- what a number_w may_w be, asked_w of the number_w itself_w -/
def i_iv : IT → Int → Bool
  | (0, _, _), _ => true
  | (1, l, h), v => decide (l ≤ v) && decide (v ≤ h) && decide (-2147483648 ≤ v) && decide (v < 2147483648)
  | (2, l, h), v => decide (l ≤ v) && decide (v ≤ h) && decide (-9223372036854775808 ≤ v) && decide (v < 9223372036854775808)
  | (4, l, _), v => decide (v = l)
  | (7, _, _), v => decide (v = 0)
  | (8, _, _), v => decide (v = 0)
  | _, _ => false
theorem i_iv_ok : ∀ {t : IT} {v : Int}, i_iv t v = true → IV (0, 0) t v
  | (0, _, _), _, _ => trivial
  | (1, l, h), v, e => by
    simp only [i_iv, Bool.and_eq_true, decide_eq_true_eq] at e
    exact ⟨e.1.1.1, e.1.1.2, e.1.2, e.2⟩
  | (2, l, h), v, e => by
    simp only [i_iv, Bool.and_eq_true, decide_eq_true_eq] at e
    exact ⟨e.1.1.1, e.1.1.2, e.1.2, e.2⟩
  | (3, _, _), _, e => by cases e
  | (4, l, _), v, e => (of_decide_eq_true e : v = l)
  | (5, _, _), _, e => by cases e
  | (6, _, _), _, e => by cases e
  | (7, _, _), v, e => by
    have : v = 0 := of_decide_eq_true e
    subst this
    exact ⟨rfl, by decide, by decide⟩
  | (8, _, _), v, e => by
    have : v = 0 := of_decide_eq_true e
    subst this
    exact ⟨rfl, by decide, by decide⟩
  | (_ + 9, _, _), _, e => by cases e
def i_ht (t : Nat) (v : Int) : Bool := (!(t == 1) || (decide (-2147483648 ≤ v) && decide (v < 2147483648))) && (!(t == 2) || (decide (-9223372036854775808 ≤ v) && decide (v < 9223372036854775808))) && (!(t == 100) || decide (v = 0) || decide (v = 1))
def i_rows : Nat → AH → Bool
  | _, [] => true
  | o, l :: r => l.all (fun p => i_ok p.2 && i_ht (c_ty g_fk a_g3 o p.1) (i_va p.2)) && i_rows (o + 1) r
theorem i_rows_ok : i_rows 0 a_h3 = true := by decide +kernel
def i_row (q : Nat) : List (Nat × AV) := a_h3.getD q []
def i_reg (q : Nat) : Bool := (r_A q).2.2.all fun r =>
  (i_iv r.2.2 0 && (Nat.beq (r_A q).2.1 0 || Nat.ble r.2.1 (r_A q).2.1) && (i_row q).all (fun p => !(Nat.ble r.1 (if (r_A q).2.1 = 0 then p.1 else p.1 % (r_A q).2.1) && Nat.blt (if (r_A q).2.1 = 0 then p.1 else p.1 % (r_A q).2.1) r.2.1) || i_iv r.2.2 (i_va p.2)))
  || (Nat.beq (r_A q).2.1 0 && (List.range (r.2.1 - r.1)).all fun i => i_iv r.2.2 (i0 q (r.1 + i)))
theorem i_reg_ok : (List.range 20).all (fun q => i_reg (183 + q)) = true := by decide +kernel
theorem i_fld_ok : (List.range 30).all (fun k => i_iv (r_F k) (i0 182 k)) = true := by decide +kernel
theorem i_188 : i0 188 96 = 0 ∧ i0 188 98 = 0 ∧ i0 188 4 = -1 ∧ i0 191 0 = 0 ∧ i0 182 12 = 0 ∧ i0 2 1 = 0 ∧ i0 182 2 = 0 := by decide +kernel
theorem lookR_in : ∀ (l : List (Nat × AV)) (k : Nat), lookR l k = .inl 0 ∨ (k, lookR l k) ∈ l
  | [], _ => Or.inl rfl
  | (a, v) :: l, k => by
    rw [lookR_cons]
    by_cases e : k = a
    · rw [if_pos e, e]
      exact Or.inr List.mem_cons_self
    · rw [if_neg e]
      rcases lookR_in l k with h | h
      · exact Or.inl h
      · exact Or.inr (List.mem_cons_of_mem _ h)
theorem i_ht0 : ∀ t, i_ht t 0 = true := fun t => by
  unfold i_ht
  simp
theorem i_rows_at : ∀ {l : AH} {b : Nat}, i_rows b l = true → ∀ o k : Nat, i_ok (lookH l o k) = true ∧ i_ht (c_ty g_fk a_g3 (b + o) k) (i_va (lookH l o k)) = true
  | [], _, _, _, _ => ⟨rfl, i_ht0 _⟩
  | row :: r, b, h, 0, k => by
    unfold i_rows at h
    rw [Bool.and_eq_true] at h
    show i_ok (lookR row k) = true ∧ i_ht (c_ty g_fk a_g3 b k) (i_va (lookR row k)) = true
    rcases lookR_in row k with e | e
    · rw [e]
      exact ⟨rfl, i_ht0 _⟩
    · have t := List.all_eq_true.mp h.1 _ e
      rw [Bool.and_eq_true] at t
      exact t
  | row :: r, b, h, o + 1, k => by
    unfold i_rows at h
    rw [Bool.and_eq_true] at h
    have t := i_rows_at h.2 o k
    rw [show b + (o + 1) = b + 1 + o by omega]
    exact t
theorem i_look (xs : Nat → Int) (o k : Nat) : (a_c xs a_s3).2 o k = i0 o k := by
  show a_v xs (lookH a_h3 o k) = i_va (lookH a_h3 o k)
  have t := (i_rows_at i_rows_ok o k).1
  generalize lookH a_h3 o k = v at t ⊢
  cases v with
  | inl v => rfl
  | inr v => cases t
theorem i_heap (xs : Nat → Int) : (a_c xs a_s3).2 = i0 := funext fun o => funext fun k => i_look xs o k
theorem i_HT : HT g_fk a_g3 i0 := fun o k => by
  have t := (i_rows_at i_rows_ok o k).2
  rw [Nat.zero_add] at t
  have t2_w : i_ht (c_ty g_fk a_g3 o k) (i0 o k) = true := t
  generalize c_ty g_fk a_g3 o k = ty_w at t2_w ⊢
  generalize i0 o k = v at t2_w ⊢
  simp only [i_ht, Bool.and_eq_true, Bool.or_eq_true, Bool.not_eq_true', beq_eq_false_iff_ne, ne_eq, decide_eq_true_eq] at t2_w
  obtain ⟨⟨h1, h2⟩, h3⟩ := t2_w
  refine ⟨fun e => ?_, fun e => ?_, fun e => ?_⟩
  · rcases h1 with h1 | h1
    · exact absurd e h1
    · exact h1
  · rcases h2 with h2 | h2
    · exact absurd e h2
    · exact h2
  · rcases h3 with (h3 | h3) | h3
    · exact absurd e h3
    · exact Or.inl h3
    · exact Or.inr h3
theorem lookH_row : ∀ (l : AH) (q k : Nat), lookH l q k = lookR (l.getD q []) k
  | [], _, _ => rfl
  | _ :: _, 0, _ => rfl
  | _ :: l, q + 1, k => lookH_row l q k
theorem i_AInv (q : Nat) (hq : 183 ≤ q) : AInv (0, 0) (r_A q) (i0 q) := by
  intro r hr i j h1 h2 h3
  by_cases hi_w : q < 203
  · have t := List.all_eq_true.mp i_reg_ok (q - 183) (List.mem_range.mpr (by omega))
    rw [show 183 + (q - 183) = q by omega] at t
    have t1_w := List.all_eq_true.mp t r hr
    rw [Bool.or_eq_true] at t1_w
    rcases t1_w with t1_w | t1_w
    · rw [Bool.and_eq_true, Bool.and_eq_true] at t1_w
      obtain ⟨⟨t2_w, t3_w⟩, t4_w⟩ := t1_w
      have e : i0 q ((r_A q).2.1 * j + i) = i_va (lookR (i_row q) ((r_A q).2.1 * j + i)) := by
        unfold i0 i_row
        rw [lookH_row]
      rw [e]
      rcases lookR_in (i_row q) ((r_A q).2.1 * j + i) with z | z
      · rw [z]
        exact i_iv_ok t2_w
      · have t5_w := List.all_eq_true.mp t4_w _ z
        dsimp only at t5_w
        have ek : (if (r_A q).2.1 = 0 then (r_A q).2.1 * j + i else ((r_A q).2.1 * j + i) % (r_A q).2.1) = i := by
          split
          · rename_i e0
            rw [e0, Nat.zero_mul, Nat.zero_add]
          · rename_i e0
            rw [Bool.or_eq_true] at t3_w
            rcases t3_w with t3_w | t3_w
            · exact absurd (Nat.eq_of_beq_eq_true t3_w) e0
            · rw [Nat.mul_add_mod]
              exact Nat.mod_eq_of_lt (Nat.lt_of_lt_of_le h2 (Nat.le_of_ble_eq_true t3_w))
        rw [ek, Bool.or_eq_true] at t5_w
        rcases t5_w with t5_w | t5_w
        · rw [Nat.ble_eq.mpr h1, show Nat.blt i r.2.1 = true from Nat.ble_eq.mpr h2] at t5_w
          cases t5_w
        · exact i_iv_ok t5_w
    · rw [Bool.and_eq_true] at t1_w
      have e0 := Nat.eq_of_beq_eq_true t1_w.1
      have t2_w := List.all_eq_true.mp t1_w.2 (i - r.1) (List.mem_range.mpr (by omega))
      rw [show r.1 + (i - r.1) = i by omega] at t2_w
      rw [e0, Nat.zero_mul, Nat.zero_add]
      exact i_iv_ok t2_w
  · rw [ra_out (by omega)] at hr
    cases hr
theorem inv_i0 : Inv0 i0 := by
  obtain ⟨q1_w, q2_w, q3_w, q4_w, q5_w, q6_w, q7_w⟩ := i_188
  refine ⟨⟨i_HT, by rw [q6_w]; decide, by rw [q6_w]; decide, by rw [q6_w, q7_w]⟩, (0, 0), ⟨i_HT, fun k => ?_, i_AInv, ?_, ?_, ?_⟩, ?_, by rw [q5_w]; decide, by rw [q5_w]; decide⟩
  · by_cases z : k < 30
    · exact i_iv_ok (List.all_eq_true.mp i_fld_ok k (List.mem_range.mpr z))
    · have e : r_F k = (0, 0, 0) := by
        unfold r_F
        rw [List.getD_eq_getElem?_getD, List.getElem?_eq_none (by show 30 ≤ k; omega)]
        rfl
      show IV (0, 0) (r_F k) (i0 182 k)
      rw [e]
      exact trivial
  · exact ⟨fun m h => by have : (m : Int) < 0 := h; omega, fun m h => by have : (m : Int) < 0 := h; omega⟩
  · intro h
    rw [q3_w] at h
    exact absurd h (by decide)
  · intro m h
    rw [q4_w] at h
    omega
  · unfold DG
    rw [q1_w, q2_w]
    exact ⟨fun m h => by omega, fun m h => by omega⟩
end
section
/-! ===== a calculus of what holds_w behind_w, if an end is_w come to: calls by contracts ===== -/
abbrev PQQ : Type := List Int → XH → Prop
abbrev PE : Type := List Int → XH → PQQ → Prop
abbrev PC : Type := List Int → XH → (XH → Prop) → (XH → Prop) → Prop
abbrev PRR : Type := Nat → List Int → List Int → XH → Prop
abbrev PS : Type := List Int → XH → PRR → Prop
/-- contracts: what must hold ahead_w of a call for_w what is_w wanted_w of its code, its answer_w, the heap behind_w -/
abbrev CSt : Type := Nat → List Int → XH → (Nat → List Int → XH → Prop) → Prop
def rfO (o : Int) (k : Nat) : Int := (j_rf a_g3 o.toNat k).getD 0
def lnO (o : Int) : Int := j_len a_g3 o.toNat
section PCD
variable (C : CSt)
def p_nz (A : PE) : PC := fun en h Qt Qf => A en h fun x h1 => (j_hd x ≠ 0 → Qt h1) ∧ (j_hd x = 0 → Qf h1)
def p_cmp (k : Nat) (A B : PE) : PC := fun en h Qt Qf => A en h fun x h1 => B en h1 fun y h2 => (j_cmp k (j_hd x) (j_hd y) = true → Qt h2) ∧ (j_cmp k (j_hd x) (j_hd y) = false → Qf h2)
def p_cmp0 (k : Nat) (A : PE) : PC := fun en h Qt Qf => A en h fun x h1 => (j_cmp k (j_hd x) 0 = true → Qt h1) ∧ (j_cmp k (j_hd x) 0 = false → Qf h1)
def p_and (A B : PC) : PC := fun en h Qt Qf => A en h (fun h1 => B en h1 Qt Qf) Qf
def p_or (A B : PC) : PC := fun en h Qt Qf => A en h Qt (fun h1 => B en h1 Qt Qf)
def p_not (A : PC) : PC := fun en h Qt Qf => A en h Qf Qt
def p_bb (A : PC) : PE := fun en h Q => A en h (fun h1 => Q [1] h1) (fun h1 => Q [0] h1)
def p_call (f : Nat) (A : PE) : PE := fun en h Q => A en h fun av h1 => C f av h1 fun k r h2 => k = 1 → Q r h2
def p_ld (k : Nat) (x y : Int) (h : XH) (Q : PQQ) : Prop := match k with
  | 0 => 0 ≤ y ∧ y < lnO x → Q [h x.toNat y.toNat] h
  | 1 => False
  | _ => 0 ≤ y ∧ y < 24 → Q [y] h
def p_ln (k : Nat) (x : Int) (h : XH) (Q : PQQ) : Prop := match k with
  | 0 => Q [lnO x] h
  | 1 => False
  | _ => Q [24] h
def pNE (t : Nat) (a b c : SX) (A B D : PE × PC) : PE := match t with
  | 1 => fun _ h Q => Q [sx_c a b c] h
  | 3 => fun en h Q => Q [en.getD (sx_n a) 0] h
  | 4 => fun en h Q => A.1 en h fun x h1 => Q [h1 (j_hd x).toNat (sx_n b)] h1
  | 5 => fun en h Q => A.1 en h fun x h1 => Q [rfO (j_hd x) (sx_n b)] h1
  | 7 => fun en h Q => A.1 en h fun x h1 => B.1 en h1 fun y h2 => p_ld (sx_n c) (j_hd x) (j_hd y) h2 Q
  | 10 => fun en h Q => A.1 en h fun x h1 => p_ln (sx_n c) (j_hd x) h1 Q
  | 13 => fun en h Q => A.1 en h fun x h1 => Q [g_cW (sx_n c) (j_hd x).toNat] h1
  | 14 => fun en h Q => A.1 en h fun x h1 => B.1 en h1 fun y h2 => Q [j_iop (sx_n c) (j_hd x) (j_hd y)] h2
  | 15 => fun en h Q => A.1 en h fun x h1 => B.1 en h1 fun y h2 => Q [j_lop (sx_n c) (j_hd x) (j_hd y)] h2
  | 16 => fun en h Q => A.1 en h fun x h1 => B.1 en h1 fun y h2 => Q [j_lsh (sx_n c) (j_hd x) (j_hd y)] h2
  | 17 => fun en h Q => A.1 en h fun x h1 => B.1 en h1 fun y h2 => j_hd y ≠ 0 → Q [j_div (sx_n c) (j_hd x) (j_hd y)] h2
  | 18 => fun en h Q => A.1 en h fun x h1 => Q [j_un (sx_n c) (j_hd x)] h1
  | 20 => p_bb (p_cmp (sx_n c) A.1 B.1)
  | 21 => p_bb (p_cmp0 (sx_n c) A.1)
  | 22 => p_bb (p_cmp (sx_n c) A.1 B.1)
  | 23 => p_bb (p_cmp (sx_n c) A.1 B.1)
  | 24 => A.1
  | 25 => p_bb (p_and A.2 B.2)
  | 26 => p_bb (p_or A.2 B.2)
  | 27 => p_bb (p_not A.2)
  | 28 => fun en h Q => A.2 en h (fun h1 => B.1 en h1 Q) (fun h1 => D.1 en h1 Q)
  | 30 => fun en h Q => A.1 en h fun x h1 => B.1 en h1 fun y h2 => Q (x ++ y) h2
  | 31 => fun _ h Q => Q [] h
  | 32 => p_call C (sx_n b) A.1
  | _ => fun _ _ _ => False
def pNC (t : Nat) (a b c : SX) (A B D : PE × PC) : PC := match t with
  | 20 => p_cmp (sx_n c) A.1 B.1
  | 21 => p_cmp0 (sx_n c) A.1
  | 22 => p_cmp (sx_n c) A.1 B.1
  | 23 => p_cmp (sx_n c) A.1 B.1
  | 24 => A.2
  | 25 => p_and A.2 B.2
  | 26 => p_or A.2 B.2
  | 27 => p_not A.2
  | _ => p_nz (pNE C t a b c A B D)
def pP : SX → PE × PC
  | .op (.var t) (.op a (.op b c)) => (pNE C t a b c (pP a) (pP b) (pP c), pNC C t a b c (pP a) (pP b) (pP c))
  | _ => (fun _ _ _ => False, fun _ _ _ _ => False)
def pE (t : SX) : PE := (pP C t).1
def pC (t : SX) : PC := (pP C t).2
def p_seq (A B : PS) : PS := fun en h R => A en h fun c vs en1 h1 => (c = 0 → B en1 h1 R) ∧ (c ≠ 0 → R c vs en1 h1)
def p_if (A : PC) (B D : PS) : PS := fun en h R => A en h (fun h1 => B en h1 R) (fun h1 => D en h1 R)
def p_loop (A : PC) (B P : PS) : PS := fun en h R => ∃ I : List Int → XH → Prop, I en h ∧ ∀ en h, I en h → A en h (fun h1 => B en h1 fun c vs en1 h2 =>
    (c = 0 ∨ c = 3 → P en1 h2 fun c' _ en2 h3 => c' = 0 → I en2 h3) ∧ (c = 2 → R 0 [] en1 h2) ∧ (c ≠ 0 → c ≠ 2 → c ≠ 3 → R c vs en1 h2)) (fun h1 => R 0 [] en h1)
def p_do (B : PS) (A : PC) : PS := fun en h R => ∃ I : List Int → XH → Prop, I en h ∧ ∀ en h, I en h → B en h fun c vs en1 h2 =>
    (c = 0 ∨ c = 3 → A en1 h2 (fun h3 => I en1 h3) (fun h3 => R 0 [] en1 h3)) ∧ (c = 2 → R 0 [] en1 h2) ∧ (c ≠ 0 → c ≠ 2 → c ≠ 3 → R c vs en1 h2)
def p_sw (A : PE) (B : PS) : PS := fun en h R => A en h fun x h1 => B (j_hd x :: en) h1 fun c vs en1 h2 => (c = 2 → R 0 vs en1 h2) ∧ (c ≠ 2 → R c vs en1 h2)
def pNS (t : Nat) (a b c : SX) (A B D : PS) : PS := match t with
  | 1 => fun en h R => R 0 [] en h
  | 2 => p_seq A B
  | 3 => fun en h R => pE C b en h fun x h1 => R 0 [] (en.set (sx_n a) (j_hd x)) h1
  | 4 => fun en h R => R 0 [] (en.set (sx_n a) (j32 (en.getD (sx_n a) 0 + (if sx_n c = 0 then (sx_n b : Int) else -(sx_n b : Int))))) h
  | 5 => fun en h R => pE C a en h fun x h1 => pE C b en h1 fun y h2 => R 0 [] en (j_up h2 (j_hd x).toNat (sx_n c) (j_hd y))
  | 6 => fun en h R => pE C a en h fun x h1 => pE C b en h1 fun y h2 => R 0 [] en (j_up h2 (j_hd x).toNat (sx_n c / 16) (j_iop (sx_n c % 16) (h1 (j_hd x).toNat (sx_n c / 16)) (j_hd y)))
  | 7 => match c with
    | .op (.var ty_w) v => fun en h R => pE C a en h fun x h1 => pE C b en h1 fun y h2 => pE C v en h2 fun z h3 => 0 ≤ j_hd y ∧ j_hd y < lnO (j_hd x) → R 0 [] en (j_up h3 (j_hd x).toNat (j_hd y).toNat (w_ty ty_w (j_hd z)))
    | _ => fun _ _ _ => False
  | 8 => match c with
    | .op (.var op_w) v => fun en h R => pE C a en h fun x h1 => pE C b en h1 fun y h2 => pE C v en h2 fun z h3 => 0 ≤ j_hd y ∧ j_hd y < lnO (j_hd x) → R 0 [] en (j_up h3 (j_hd x).toNat (j_hd y).toNat (j_iop op_w (h2 (j_hd x).toNat (j_hd y).toNat) (j_hd z)))
    | _ => fun _ _ _ => False
  | 9 => fun en h R => pE C a en h fun _ h1 => R 0 [] en h1
  | 10 => p_if (pC C a) B (fun en h R => R 0 [] en h)
  | 11 => p_if (pC C a) B D
  | 12 => p_loop (pC C a) B D
  | 13 => p_do B (pC C a)
  | 14 => fun en h R => R 2 [] en h
  | 15 => fun en h R => R 3 [] en h
  | 16 => fun en h R => pE C a en h fun x h1 => R 1 x en h1
  | 27 => fun en h R => pE C a en h fun x h1 => (j_hd x = 0 ∨ j_hd x = 1) → R 1 x en h1
  | 17 => fun en h R => R 1 [] en h
  | 18 => fun en h R => R 4 [] en h
  | 19 => p_sw (pE C a) B
  | 20 => A
  | 22 => fun en h R => R 0 [] en h
  | 23 => fun en h R => pE C a en h fun x h1 => pE C b en h1 fun y h2 => (j_hd y = 0 ∨ j_hd y = 1) → R 0 [] en (j_up h2 (j_hd x).toNat (sx_n c) (j_hd y))
  | 28 => p_if (pC C a) B (fun en h R => R 2 [] en h)
  | 25 => fun en h R => ((sx_l a).any (fun n => decide (en.headD 0 = sx_z n)) = true → B en.tail h fun c vs en1 h1 => c ≠ 0 → R c vs en1 h1) ∧ ((sx_l a).any (fun n => decide (en.headD 0 = sx_z n)) = false → D en h R)
  | 26 => fun en h R => A en.tail h R
  | _ => fun _ _ _ => False
def pS : SX → PS
  | .op (.var t) (.op a (.op b c)) => pNS C t a b c (pS a) (pS b) (pS c)
  | _ => fun _ _ _ => False
end PCD
def SndC (C : CSt) (F : XP) : Prop := ∀ (cd : Nat × Nat) (f : Nat) (av : List Int) (h : XH) (Q : Nat → List Int → XH → Prop), C f av h Q → ∀ (k : Nat) (r : List Int) (g' : XS × Nat × Nat) (h' : XH), F f av ((a_g3, cd), h) = some (k, r, (g', h')) → (k = 1 → g' = (a_g3, cd)) ∧ Q k r h'
section PCO
variable {xs : Nat → Int} {L K : Nat} {F : XP} {C : CSt} {cd : Nat × Nat}
def PkE (cd : Nat × Nat) (W : PE) (A : XE) : Prop := ∀ en h Q, W en h Q → ∀ (r : List Int) (g' : XS × Nat × Nat) (h' : XH), A en ((a_g3, cd), h) = some (r, (g', h')) → g' = (a_g3, cd) ∧ Q r h'
def PkC (cd : Nat × Nat) (W : PC) (A : XE) : Prop := ∀ en h Qt Qf, W en h Qt Qf → ∀ (r : List Int) (g' : XS × Nat × Nat) (h' : XH), A en ((a_g3, cd), h) = some (r, (g', h')) → g' = (a_g3, cd) ∧ (j_hd r ≠ 0 → Qt h') ∧ (j_hd r = 0 → Qf h')
def PkB (cd : Nat × Nat) (W : PC) (A : XE) : Prop := ∀ en h Qt Qf, W en h Qt Qf → ∀ (r : List Int) (g' : XS × Nat × Nat) (h' : XH), A en ((a_g3, cd), h) = some (r, (g', h')) → g' = (a_g3, cd) ∧ (r = [1] ∧ Qt h' ∨ r = [0] ∧ Qf h')
theorem PkB.c {W : PC} {A : XE} (a : PkB cd W A) : PkC cd W A := fun en h Qt Qf w r g' h' e => by
  obtain ⟨e1_w, ⟨rfl, e2_w⟩ | ⟨rfl, e2_w⟩⟩ := a en h Qt Qf w r g' h' e
  · exact ⟨e1_w, fun _ => e2_w, fun z => absurd z (by decide)⟩
  · exact ⟨e1_w, fun z => absurd rfl z, fun _ => e2_w⟩
theorem PkB.e {W : PC} {A : XE} (a : PkB cd W A) : PkE cd (p_bb W) A := fun en h Q w r g' h' e => by
  obtain ⟨e1_w, ⟨rfl, e2_w⟩ | ⟨rfl, e2_w⟩⟩ := a en h _ _ w r g' h' e
  · exact ⟨e1_w, e2_w⟩
  · exact ⟨e1_w, e2_w⟩
theorem pk_bv {b : Bool} {Qt Qf : Prop} (ht : b = true → Qt) (hf : b = false → Qf) : ([j_b b] = ([1] : List Int) ∧ Qt) ∨ ([j_b b] = ([0] : List Int) ∧ Qf) := by
  cases b with
  | true => exact Or.inl ⟨rfl, ht rfl⟩
  | false => exact Or.inr ⟨rfl, hf rfl⟩
theorem pkb_cmp {k : Nat} {A B : PE} {A' B' : XE} (hA : PkE cd A A') (hB_w : PkE cd B B') : PkB cd (p_cmp k A B) (n_cmp (j_cmp k) A' B') := fun en h Qt Qf w r g' h' e => by
  obtain ⟨⟨x, g1, h1⟩, e1_w, e⟩ := j_bd e
  obtain ⟨rfl, w⟩ := hA en h _ w _ _ _ e1_w
  obtain ⟨⟨y, g2, h2⟩, e2_w, e⟩ := j_bd e
  obtain ⟨rfl, w⟩ := hB_w en h1 _ w _ _ _ e2_w
  cases e
  exact ⟨rfl, pk_bv w.1 w.2⟩
theorem pkb_cmp0 {k : Nat} {A : PE} {A' X : XE} (hA : PkE cd A A') (hX : ∀ en st, X en st = (A' en st).bind fun x => some ([j_b (j_cmp k (j_hd x.1) 0)], x.2)) : PkB cd (p_cmp0 k A) X := fun en h Qt Qf w r g' h' e => by
  rw [hX] at e
  obtain ⟨⟨x, g1, h1⟩, e1_w, e⟩ := j_bd e
  obtain ⟨rfl, w⟩ := hA en h _ w _ _ _ e1_w
  cases e
  exact ⟨rfl, pk_bv w.1 w.2⟩
theorem pkb_nz {B : PC} {B' : XE} (hB_w : PkC cd B B') : PkB cd B (n_nz B') := fun en h Qt Qf w r g' h' e => by
  obtain ⟨⟨x, g1, h1⟩, e1_w, e⟩ := j_bd e
  obtain ⟨rfl, w1_w, w2_w⟩ := hB_w en h _ _ w _ _ _ e1_w
  cases e
  exact ⟨rfl, pk_bv (fun z => w1_w (of_decide_eq_true z)) (fun z => w2_w (Decidable.of_not_not (of_decide_eq_false z)))⟩
theorem pkb_and {A B : PC} {A' B' : XE} (hA : PkC cd A A') (hB_w : PkC cd B B') : PkB cd (p_and A B) (n_ife A' (n_nz B') (fun _ st => some ([0], st))) := fun en h Qt Qf w r g' h' e => by
  obtain ⟨⟨x, g1, h1⟩, e1_w, e⟩ := j_bd e
  obtain ⟨rfl, w1_w, w2_w⟩ := hA en h _ _ w _ _ _ e1_w
  dsimp only at e
  by_cases z : j_hd x = 0
  · rw [if_pos z] at e
    cases e
    exact ⟨rfl, Or.inr ⟨rfl, w2_w z⟩⟩
  · rw [if_neg z] at e
    exact pkb_nz hB_w en h1 _ _ (w1_w z) _ _ _ e
theorem pkb_or {A B : PC} {A' B' : XE} (hA : PkC cd A A') (hB_w : PkC cd B B') : PkB cd (p_or A B) (n_ife A' (fun _ st => some ([1], st)) (n_nz B')) := fun en h Qt Qf w r g' h' e => by
  obtain ⟨⟨x, g1, h1⟩, e1_w, e⟩ := j_bd e
  obtain ⟨rfl, w1_w, w2_w⟩ := hA en h _ _ w _ _ _ e1_w
  dsimp only at e
  by_cases z : j_hd x = 0
  · rw [if_pos z] at e
    exact pkb_nz hB_w en h1 _ _ (w2_w z) _ _ _ e
  · rw [if_neg z] at e
    cases e
    exact ⟨rfl, Or.inl ⟨rfl, w1_w z⟩⟩
theorem pkb_not {A : PC} {A' X : XE} (hA : PkC cd A A') (hX : ∀ en st, X en st = (A' en st).bind fun x => some ([j_b (decide (j_hd x.1 = 0))], x.2)) : PkB cd (p_not A) X := fun en h Qt Qf w r g' h' e => by
  rw [hX] at e
  obtain ⟨⟨x, g1, h1⟩, e1_w, e⟩ := j_bd e
  obtain ⟨rfl, w1_w, w2_w⟩ := hA en h _ _ w _ _ _ e1_w
  cases e
  exact ⟨rfl, pk_bv (fun z => w2_w (of_decide_eq_true z)) (fun z => w1_w (of_decide_eq_false z))⟩
theorem pkc_nz {A : PE} {A' : XE} (hA : PkE cd A A') : PkC cd (p_nz A) A' := fun en h Qt Qf w r g' h' e => hA en h _ w r g' h' e
theorem pke_2 {A B : PE} {A' B' X : XE} (hA : PkE cd A A') (hB_w : PkE cd B B') {f : List Int → List Int → List Int} (hX : ∀ en st, X en st = (A' en st).bind fun x => (B' en x.2).bind fun y => some (f x.1 y.1, y.2)) : PkE cd (fun en h Q => A en h fun x h1 => B en h1 fun y h2 => Q (f x y) h2) X := fun en h Q w r g' h' e => by
  rw [hX] at e
  obtain ⟨⟨x, g1, h1⟩, e1_w, e⟩ := j_bd e
  obtain ⟨rfl, w⟩ := hA en h _ w _ _ _ e1_w
  obtain ⟨⟨y, g2, h2⟩, e2_w, e⟩ := j_bd e
  obtain ⟨rfl, w⟩ := hB_w en h1 _ w _ _ _ e2_w
  cases e
  exact ⟨rfl, w⟩
theorem pP_ok (hF : SndC C F) : ∀ (t : SX), PkE cd (pP C t).1 (evE xs L g_ck F g_cW t) ∧ PkC cd (pP C t).2 (evE xs L g_ck F g_cW t)
  | .op (.var t) (.op a (.op b c)) => by
    obtain ⟨eA_w, cA_w⟩ := pP_ok hF a
    obtain ⟨eB, cB_w⟩ := pP_ok hF b
    obtain ⟨eD, cD⟩ := pP_ok hF c
    have k20 : PkB cd (p_cmp (sx_n c) (pP C a).1 (pP C b).1) (n_cmp (j_cmp (sx_n c)) (evE xs L g_ck F g_cW a) (evE xs L g_ck F g_cW b)) := pkb_cmp eA_w eB
    have k21 : PkB cd (p_cmp0 (sx_n c) (pP C a).1) (nodeE xs L g_ck F g_cW 21 a b c (evE xs L g_ck F g_cW a) (evE xs L g_ck F g_cW b) (evE xs L g_ck F g_cW c)) := pkb_cmp0 eA_w (fun _ _ => rfl)
    have k25 := pkb_and cA_w cB_w
    have k26 := pkb_or cA_w cB_w
    have k27 : PkB cd (p_not (pP C a).2) (nodeE xs L g_ck F g_cW 27 a b c (evE xs L g_ck F g_cW a) (evE xs L g_ck F g_cW b) (evE xs L g_ck F g_cW c)) := pkb_not cA_w (fun _ _ => rfl)
    have hE : PkE cd (pNE C t a b c (pP C a) (pP C b) (pP C c)) (nodeE xs L g_ck F g_cW t a b c (evE xs L g_ck F g_cW a) (evE xs L g_ck F g_cW b) (evE xs L g_ck F g_cW c)) := by
      unfold pNE
      split
      · intro en h Q w r g' h' e; cases e; exact ⟨rfl, w⟩
      · intro en h Q w r g' h' e; cases e; exact ⟨rfl, w⟩
      · intro en h Q w r g' h' e
        obtain ⟨⟨x, g1, h1⟩, e1_w, e⟩ := j_bd e
        obtain ⟨rfl, w⟩ := eA_w en h _ w _ _ _ e1_w
        cases e
        exact ⟨rfl, w⟩
      · intro en h Q w r g' h' e
        obtain ⟨⟨x, g1, h1⟩, e1_w, e⟩ := j_bd e
        obtain ⟨rfl, w⟩ := eA_w en h _ w _ _ _ e1_w
        obtain ⟨v, e2_w, e⟩ := j_bd e
        cases e
        have z : rfO (j_hd x) (sx_n b) = v := by
          unfold rfO
          have e2' : j_rf a_g3 (j_hd x).toNat (sx_n b) = some v := e2_w
          rw [e2']
          rfl
        rw [z] at w
        exact ⟨rfl, w⟩
      · intro en h Q w r g' h' e
        obtain ⟨⟨x, g1, h1⟩, e1_w, e⟩ := j_bd e
        obtain ⟨rfl, w⟩ := eA_w en h _ w _ _ _ e1_w
        obtain ⟨⟨y, g2, h2⟩, e2_w, e⟩ := j_bd e
        obtain ⟨rfl, w⟩ := eB en h1 _ w _ _ _ e2_w
        unfold p_ld at w
        dsimp only at e
        split at w
        · rename_i hk
          rw [hk] at e
          obtain ⟨b1, e⟩ := j_if e
          cases e
          exact ⟨rfl, w b1⟩
        · exact w.elim
        · rename_i hk0 hk1
          split at e
          · rename_i hk; exact absurd hk hk0
          · rename_i hk; exact absurd hk hk1
          · obtain ⟨b1, e⟩ := j_if e
            cases e
            exact ⟨rfl, w b1⟩
      · intro en h Q w r g' h' e
        obtain ⟨⟨x, g1, h1⟩, e1_w, e⟩ := j_bd e
        obtain ⟨rfl, w⟩ := eA_w en h _ w _ _ _ e1_w
        unfold p_ln at w
        dsimp only at e
        split at w
        · rename_i hk
          rw [hk] at e
          cases e
          exact ⟨rfl, w⟩
        · exact w.elim
        · rename_i hk0 hk1
          split at e
          · rename_i hk; exact absurd hk hk0
          · rename_i hk; exact absurd hk hk1
          · cases e
            exact ⟨rfl, w⟩
      · intro en h Q w r g' h' e
        obtain ⟨⟨x, g1, h1⟩, e1_w, e⟩ := j_bd e
        obtain ⟨rfl, w⟩ := eA_w en h _ w _ _ _ e1_w
        cases e
        exact ⟨rfl, w⟩
      · exact pke_2 eA_w eB (f := fun x y => [j_iop (sx_n c) (j_hd x) (j_hd y)]) (fun _ _ => rfl)
      · exact pke_2 eA_w eB (f := fun x y => [j_lop (sx_n c) (j_hd x) (j_hd y)]) (fun _ _ => rfl)
      · exact pke_2 eA_w eB (f := fun x y => [j_lsh (sx_n c) (j_hd x) (j_hd y)]) (fun _ _ => rfl)
      · intro en h Q w r g' h' e
        obtain ⟨⟨x, g1, h1⟩, e1_w, e⟩ := j_bd e
        obtain ⟨rfl, w⟩ := eA_w en h _ w _ _ _ e1_w
        obtain ⟨⟨y, g2, h2⟩, e2_w, e⟩ := j_bd e
        obtain ⟨rfl, w⟩ := eB en h1 _ w _ _ _ e2_w
        dsimp only at e
        by_cases z : j_hd y = 0
        · rw [if_pos z] at e; cases e
        · rw [if_neg z] at e; cases e; exact ⟨rfl, w z⟩
      · intro en h Q w r g' h' e
        obtain ⟨⟨x, g1, h1⟩, e1_w, e⟩ := j_bd e
        obtain ⟨rfl, w⟩ := eA_w en h _ w _ _ _ e1_w
        cases e
        exact ⟨rfl, w⟩
      · exact k20.e
      · exact k21.e
      · exact k20.e
      · exact k20.e
      · exact eA_w
      · exact k25.e
      · exact k26.e
      · exact k27.e
      · intro en h Q w r g' h' e
        obtain ⟨⟨x, g1, h1⟩, e1_w, e⟩ := j_bd e
        obtain ⟨rfl, w1_w, w2_w⟩ := cA_w en h _ _ w _ _ _ e1_w
        dsimp only at e
        by_cases z : j_hd x = 0
        · rw [if_pos z] at e
          exact eD en h1 _ (w2_w z) _ _ _ e
        · rw [if_neg z] at e
          exact eB en h1 _ (w1_w z) _ _ _ e
      · exact pke_2 eA_w eB (f := fun x y => x ++ y) (fun _ _ => rfl)
      · intro en h Q w r g' h' e; cases e; exact ⟨rfl, w⟩
      · intro en h Q w r g' h' e
        obtain ⟨⟨x, g1, h1⟩, e1_w, e⟩ := j_bd e
        obtain ⟨rfl, w⟩ := eA_w en h _ w _ _ _ e1_w
        obtain ⟨⟨k, r2, g2, h2⟩, e2_w, e⟩ := j_bd e
        obtain ⟨w1_w, w2_w⟩ := hF cd _ _ _ _ w _ _ _ _ e2_w
        obtain ⟨b1, e⟩ := j_if e
        cases e
        have b2 : k = 1 := b1
        exact ⟨w1_w b2, w2_w b2⟩
      · exact fun _ _ _ w => w.elim
    refine ⟨hE, ?_⟩
    show PkC cd (pNC C t a b c (pP C a) (pP C b) (pP C c)) _
    unfold pNC
    split
    · exact k20.c
    · exact k21.c
    · exact k20.c
    · exact k20.c
    · exact cA_w
    · exact k25.c
    · exact k26.c
    · exact k27.c
    · exact pkc_nz hE
  | .var _ => ⟨fun _ _ _ w => w.elim, fun _ _ _ _ w => w.elim⟩
  | .op (.op _ _) _ => ⟨fun _ _ _ w => w.elim, fun _ _ _ _ w => w.elim⟩
  | .op (.var _) (.var _) => ⟨fun _ _ _ w => w.elim, fun _ _ _ _ w => w.elim⟩
  | .op (.var _) (.op _ (.var _)) => ⟨fun _ _ _ w => w.elim, fun _ _ _ _ w => w.elim⟩
def PkS (cd : Nat × Nat) (W : PS) (A : XR) : Prop := ∀ en h R, W en h R → ∀ (c : Nat) (vs en' : List Int) (g' : XS × Nat × Nat) (h' : XH), A en ((a_g3, cd), h) = some (c, vs, en', (g', h')) → (c ≠ 4 → g' = (a_g3, cd)) ∧ R c vs en' h'
theorem if_s {α : Type} {p : Prop} [Decidable p] {x : Option α} {v : α} (e : (if p then x else none) = some v) : p ∧ x = some v := by
  by_cases z : p
  · rw [if_pos z] at e
    exact ⟨z, e⟩
  · rw [if_neg z] at e
    cases e
theorem pks_seq {A B : PS} {A' B' : XR} (hA : PkS cd A A') (hB_w : PkS cd B B') : PkS cd (p_seq A B) (s_seq A' B') := fun en h R w c vs en' g' h' e => by
  obtain ⟨⟨c1_w, v1_w, en1, g1, h1⟩, e1_w, e⟩ := j_bd e
  obtain ⟨k1_w, w1_w, w2_w⟩ := hA en h _ w _ _ _ _ _ e1_w
  dsimp only at e
  by_cases z : c1_w = 0
  · rw [if_pos z] at e
    obtain rfl := k1_w (by omega)
    exact hB_w en1 h1 _ (w1_w z) _ _ _ _ _ e
  · rw [if_neg z] at e
    cases e
    exact ⟨k1_w, w2_w z⟩
theorem pks_if {X : PC} {X' : XE} {A B : PS} {A' B' : XR} (hX : PkC cd X X') (hA : PkS cd A A') (hB_w : PkS cd B B') : PkS cd (p_if X A B) (s_if X' A' B') := fun en h R w c vs en' g' h' e => by
  obtain ⟨⟨x, g1, h1⟩, e1_w, e⟩ := j_bd e
  obtain ⟨rfl, w1_w, w2_w⟩ := hX en h _ _ w _ _ _ e1_w
  dsimp only at e
  by_cases z : j_hd x = 0
  · rw [if_pos z] at e
    exact hB_w en h1 _ (w2_w z) _ _ _ _ _ e
  · rw [if_neg z] at e
    exact hA en h1 _ (w1_w z) _ _ _ _ _ e
theorem pks_loop {X : PC} {X' : XE} {B P : PS} {B' P'_w : XR} (hX : PkC cd X X') (hB_w : PkS cd B B') (hP : PkS cd P P'_w) {R : PRR} {I : List Int → XH → Prop} (hI : ∀ en h, I en h → X en h (fun h1 => B en h1 fun c vs en1 h2 =>
    (c = 0 ∨ c = 3 → P en1 h2 fun c' _ en2 h3 => c' = 0 → I en2 h3) ∧ (c = 2 → R 0 [] en1 h2) ∧ (c ≠ 0 → c ≠ 2 → c ≠ 3 → R c vs en1 h2)) (fun h1 => R 0 [] en h1)) : ∀ (k : Nat) (en : List Int) (h : XH), I en h → ∀ (c : Nat) (vs en' : List Int) (g' : XS × Nat × Nat) (h' : XH), s_loop X' B' P'_w k en ((a_g3, cd), h) = some (c, vs, en', (g', h')) → (c ≠ 4 → g' = (a_g3, cd)) ∧ R c vs en' h'
  | 0, _, _, _, _, _, _, _, _, e => by cases e
  | k + 1, en, h, i, c, vs, en', g', h', e => by
    unfold s_loop at e
    obtain ⟨⟨x, g1, h1⟩, e1_w, e⟩ := j_bd e
    obtain ⟨rfl, w1_w, w2_w⟩ := hX en h _ _ (hI en h i) _ _ _ e1_w
    dsimp only at e
    by_cases z : j_hd x = 0
    · rw [if_pos z] at e
      cases e
      exact ⟨fun _ => rfl, w2_w z⟩
    · rw [if_neg z] at e
      obtain ⟨⟨c2, v2, en2, g2, h2⟩, e2_w, e⟩ := j_bd e
      obtain ⟨k2, w3_w, w4_w, w5⟩ := hB_w en h1 _ (w1_w z) _ _ _ _ _ e2_w
      dsimp only at e
      by_cases z2 : c2 = 0 ∨ c2 = 3
      · rw [if_pos z2] at e
        obtain rfl := k2 (by omega)
        obtain ⟨⟨c3, v3, en3, g3_w, h3⟩, e3_w, e⟩ := j_bd e
        obtain ⟨k3, w6_w⟩ := hP en2 h2 _ (w3_w z2) _ _ _ _ _ e3_w
        dsimp only at e
        obtain ⟨z3, e⟩ := if_s e
        obtain rfl := k3 (by omega)
        exact pks_loop hX hB_w hP hI k en3 h3 (w6_w z3) _ _ _ _ _ e
      · rw [if_neg z2] at e
        by_cases z3 : c2 = 2
        · rw [if_pos z3] at e
          obtain rfl := k2 (by omega)
          cases e
          exact ⟨fun _ => rfl, w4_w z3⟩
        · rw [if_neg z3] at e
          cases e
          exact ⟨k2, w5 (by omega) z3 (by omega)⟩
theorem pks_do {X : PC} {X' : XE} {B : PS} {B' : XR} (hX : PkC cd X X') (hB_w : PkS cd B B') {R : PRR} {I : List Int → XH → Prop} (hI : ∀ en h, I en h → B en h fun c vs en1 h2 =>
    (c = 0 ∨ c = 3 → X en1 h2 (fun h3 => I en1 h3) (fun h3 => R 0 [] en1 h3)) ∧ (c = 2 → R 0 [] en1 h2) ∧ (c ≠ 0 → c ≠ 2 → c ≠ 3 → R c vs en1 h2)) : ∀ (k : Nat) (en : List Int) (h : XH), I en h → ∀ (c : Nat) (vs en' : List Int) (g' : XS × Nat × Nat) (h' : XH), s_do B' X' k en ((a_g3, cd), h) = some (c, vs, en', (g', h')) → (c ≠ 4 → g' = (a_g3, cd)) ∧ R c vs en' h'
  | 0, _, _, _, _, _, _, _, _, e => by cases e
  | k + 1, en, h, i, c, vs, en', g', h', e => by
    unfold s_do at e
    obtain ⟨⟨c2, v2, en2, g2, h2⟩, e2_w, e⟩ := j_bd e
    obtain ⟨k2, w3_w, w4_w, w5⟩ := hB_w en h _ (hI en h i) _ _ _ _ _ e2_w
    dsimp only at e
    by_cases z2 : c2 = 0 ∨ c2 = 3
    · rw [if_pos z2] at e
      obtain rfl := k2 (by omega)
      obtain ⟨⟨x, g1, h1⟩, e1_w, e⟩ := j_bd e
      obtain ⟨rfl, w1_w, w2_w⟩ := hX en2 h2 _ _ (w3_w z2) _ _ _ e1_w
      dsimp only at e
      by_cases z : j_hd x = 0
      · rw [if_pos z] at e
        cases e
        exact ⟨fun _ => rfl, w2_w z⟩
      · rw [if_neg z] at e
        exact pks_do hX hB_w hI k en2 h1 (w1_w z) _ _ _ _ _ e
    · rw [if_neg z2] at e
      by_cases z3 : c2 = 2
      · rw [if_pos z3] at e
        obtain rfl := k2 (by omega)
        cases e
        exact ⟨fun _ => rfl, w4_w z3⟩
      · rw [if_neg z3] at e
        cases e
        exact ⟨k2, w5 (by omega) z3 (by omega)⟩
theorem pS_ok (hF : SndC C F) : ∀ (t : SX), PkS cd (pS C t) (evS xs L g_ck F K g_cW t)
  | .op (.var t) (.op a (.op b c)) => by
    have sA := pS_ok hF a
    have sB := pS_ok hF b
    have sD := pS_ok hF c
    have ee := fun t => (pP_ok (xs := xs) (L := L) (cd := cd) hF t).1
    have cc := fun t => (pP_ok (xs := xs) (L := L) (cd := cd) hF t).2
    show PkS cd (pNS C t a b c (pS C a) (pS C b) (pS C c)) (nodeS xs L g_ck F K g_cW t a b c (evS xs L g_ck F K g_cW a) (evS xs L g_ck F K g_cW b) (evS xs L g_ck F K g_cW c))
    unfold pNS
    split
    · intro en h R w c vs en' g' h' e; cases e; exact ⟨fun _ => rfl, w⟩
    · exact pks_seq sA sB
    · intro en h R w c vs en' g' h' e
      obtain ⟨⟨x, g1, h1⟩, e1_w, e⟩ := j_bd e
      obtain ⟨rfl, w⟩ := ee b en h _ w _ _ _ e1_w
      cases e
      exact ⟨fun _ => rfl, w⟩
    · intro en h R w c vs en' g' h' e; cases e; exact ⟨fun _ => rfl, w⟩
    · intro en h R w c vs en' g' h' e
      obtain ⟨⟨x, g1, h1⟩, e1_w, e⟩ := j_bd e
      obtain ⟨rfl, w⟩ := ee a en h _ w _ _ _ e1_w
      obtain ⟨⟨y, g2, h2⟩, e2_w, e⟩ := j_bd e
      obtain ⟨rfl, w⟩ := ee b en h1 _ w _ _ _ e2_w
      cases e
      exact ⟨fun _ => rfl, w⟩
    · intro en h R w c vs en' g' h' e
      obtain ⟨⟨x, g1, h1⟩, e1_w, e⟩ := j_bd e
      obtain ⟨rfl, w⟩ := ee a en h _ w _ _ _ e1_w
      obtain ⟨⟨y, g2, h2⟩, e2_w, e⟩ := j_bd e
      obtain ⟨rfl, w⟩ := ee b en h1 _ w _ _ _ e2_w
      cases e
      exact ⟨fun _ => rfl, w⟩
    · split
      · intro en h R w c vs en' g' h' e
        obtain ⟨⟨x, g1, h1⟩, e1_w, e⟩ := j_bd e
        obtain ⟨rfl, w⟩ := ee a en h _ w _ _ _ e1_w
        obtain ⟨⟨y, g2, h2⟩, e2_w, e⟩ := j_bd e
        obtain ⟨rfl, w⟩ := ee b en h1 _ w _ _ _ e2_w
        obtain ⟨⟨z, g3_w, h3⟩, e3_w, e⟩ := j_bd e
        obtain ⟨rfl, w⟩ := ee _ en h2 _ w _ _ _ e3_w
        obtain ⟨b1, e⟩ := j_if e
        cases e
        exact ⟨fun _ => rfl, w b1⟩
      · exact fun _ _ _ w => w.elim
    · split
      · intro en h R w c vs en' g' h' e
        obtain ⟨⟨x, g1, h1⟩, e1_w, e⟩ := j_bd e
        obtain ⟨rfl, w⟩ := ee a en h _ w _ _ _ e1_w
        obtain ⟨⟨y, g2, h2⟩, e2_w, e⟩ := j_bd e
        obtain ⟨rfl, w⟩ := ee b en h1 _ w _ _ _ e2_w
        obtain ⟨b1, e⟩ := if_s e
        obtain ⟨⟨z, g3_w, h3⟩, e3_w, e⟩ := j_bd e
        obtain ⟨rfl, w⟩ := ee _ en h2 _ w _ _ _ e3_w
        obtain ⟨b2, e⟩ := j_if e
        cases e
        exact ⟨fun _ => rfl, w b1⟩
      · exact fun _ _ _ w => w.elim
    · intro en h R w c vs en' g' h' e
      obtain ⟨⟨x, g1, h1⟩, e1_w, e⟩ := j_bd e
      obtain ⟨rfl, w⟩ := ee a en h _ w _ _ _ e1_w
      cases e
      exact ⟨fun _ => rfl, w⟩
    · exact pks_if (B' := fun en st => some (0, [], en, st)) (cc a) sB (fun en h R w c vs en' g' h' e => by cases e; exact ⟨fun _ => rfl, w⟩)
    · exact pks_if (cc a) sB sD
    · intro en h R w
      obtain ⟨I, i0, hI⟩ := w
      exact pks_loop (cc a) sB sD hI K en h i0
    · intro en h R w
      obtain ⟨I, i0, hI⟩ := w
      exact pks_do (cc a) sB hI K en h i0
    · intro en h R w c vs en' g' h' e; cases e; exact ⟨fun _ => rfl, w⟩
    · intro en h R w c vs en' g' h' e; cases e; exact ⟨fun _ => rfl, w⟩
    · intro en h R w c vs en' g' h' e
      obtain ⟨⟨x, g1, h1⟩, e1_w, e⟩ := j_bd e
      obtain ⟨rfl, w⟩ := ee a en h _ w _ _ _ e1_w
      cases e
      exact ⟨fun _ => rfl, w⟩
    · intro en h R w c vs en' g' h' e
      obtain ⟨⟨x, g1, h1⟩, e1_w, e⟩ := j_bd e
      obtain ⟨rfl, w⟩ := ee a en h _ w _ _ _ e1_w
      obtain ⟨b1, e⟩ := j_if e
      cases e
      exact ⟨fun _ => rfl, w b1⟩
    · intro en h R w c vs en' g' h' e; cases e; exact ⟨fun _ => rfl, w⟩
    · intro en h R w c vs en' g' h' e; cases e; exact ⟨fun z => absurd rfl z, w⟩
    · intro en h R w c vs en' g' h' e
      obtain ⟨⟨x, g1, h1⟩, e1_w, e⟩ := j_bd e
      obtain ⟨rfl, w⟩ := ee a en h _ w _ _ _ e1_w
      obtain ⟨⟨c2, v2, en2, g2, h2⟩, e2_w, e⟩ := j_bd e
      obtain ⟨k2, w1_w, w2_w⟩ := sB _ h1 _ w _ _ _ _ _ e2_w
      dsimp only at e
      by_cases z : c2 = 2
      · rw [if_pos z] at e
        cases e
        exact ⟨fun _ => k2 (by omega), w1_w z⟩
      · rw [if_neg z] at e
        cases e
        exact ⟨k2, w2_w z⟩
    · exact sA
    · intro en h R w c vs en' g' h' e; cases e; exact ⟨fun _ => rfl, w⟩
    · intro en h R w c vs en' g' h' e
      obtain ⟨⟨x, g1, h1⟩, e1_w, e⟩ := j_bd e
      obtain ⟨rfl, w⟩ := ee a en h _ w _ _ _ e1_w
      obtain ⟨⟨y, g2, h2⟩, e2_w, e⟩ := j_bd e
      obtain ⟨rfl, w⟩ := ee b en h1 _ w _ _ _ e2_w
      obtain ⟨b1, e⟩ := j_if e
      cases e
      exact ⟨fun _ => rfl, w b1⟩
    · exact pks_if (B' := fun en st => some (2, [], en, st)) (cc a) sB (fun en h R w c vs en' g' h' e => by cases e; exact ⟨fun _ => rfl, w⟩)
    · intro en h R w k vs en' g' h' e
      obtain ⟨w1_w, w2_w⟩ := w
      cases z : (sx_l a).any (fun n => decide (en.headD 0 = sx_z n)) with
      | true =>
        have e' := (if_pos z).symm.trans e
        obtain ⟨⟨c2, v2, en2, g2, h2⟩, e2_w, e3_w⟩ := j_bd e'
        obtain ⟨k2, w3_w⟩ := sB _ h _ (w1_w z) _ _ _ _ _ e2_w
        dsimp only at e3_w
        by_cases z2 : c2 = 0
        · rw [if_pos z2] at e3_w
          cases e3_w
        · rw [if_neg z2] at e3_w
          cases e3_w
          exact ⟨k2, w3_w z2⟩
      | false =>
        have e' := (if_neg (by rw [z]; decide)).symm.trans e
        exact sD _ h _ (w2_w z) _ _ _ _ _ e'
    · intro en h R w c vs en' g' h' e
      exact sA _ h _ w _ _ _ _ _ e
    · exact fun _ _ _ w => w.elim
  | .var _ => fun _ _ _ w => w.elim
  | .op (.op _ _) _ => fun _ _ _ w => w.elim
  | .op (.var _) (.var _) => fun _ _ _ w => w.elim
  | .op (.var _) (.op _ (.var _)) => fun _ _ _ w => w.elim
/-- a method_w whose body_w keeps_w its contract_w keeps_w it at every depth -/
def BodyOK (C C'_w : CSt) (f : Nat) : Prop := ∀ (av : List Int) (h : XH) (Q : Nat → List Int → XH → Prop), C f av h Q → pS C'_w (g_M f).2.2.2.2 (j_pad 0 (g_M f).2.1 (j_lay (g_M f).2.2.1 av)) h (fun k r _ h' => k = 1 ∨ k = 4 → Q k r h')
theorem snd_F {n : Nat} {C'_w : CSt} {f : Nat} (hC : SndC C'_w (evF xs L g_ck K g_cW g_M n)) (hb_w : BodyOK C C'_w f) {cd : Nat × Nat} {av : List Int} {h : XH} {Q : Nat → List Int → XH → Prop} (hQ : C f av h Q) {k : Nat} {r : List Int} {g' : XS × Nat × Nat} {h' : XH} (e : evF xs L g_ck K g_cW g_M (n + 1) f av ((a_g3, cd), h) = some (k, r, (g', h'))) : (k = 1 → g' = (a_g3, cd)) ∧ Q k r h' := by
  obtain ⟨en', e1_w, e2_w, -⟩ := evF_some e
  obtain ⟨w1_w, w2_w⟩ := pS_ok (K := K) (cd := cd) hC _ _ _ _ (hb_w av h Q hQ) _ _ _ _ _ e1_w
  exact ⟨fun z => w1_w (by omega), w2_w e2_w⟩
/-- contracts of new_w methods over old_w ones -/
theorem snd_all {C0_w C1_w : CSt} (h0 : ∀ n, SndC C0_w (evF xs L g_ck K g_cW g_M n)) (hb_w : ∀ f av h Q, C1_w f av h Q → C0_w f av h Q ∨ BodyOK C1_w C1_w f) : ∀ n, SndC C1_w (evF xs L g_ck K g_cW g_M n)
  | 0 => fun _ _ _ _ _ _ _ _ _ _ e => by cases e
  | n + 1 => fun cd f av h Q hQ k r g' h' e => by
    rcases hb_w f av h Q hQ with z | z
    · exact h0 (n + 1) cd f av h Q z k r g' h' e
    · exact snd_F (snd_all h0 hb_w n) z hQ e
theorem snd_none : ∀ n, SndC (fun _ _ _ _ => False) (evF xs L g_ck K g_cW g_M n) := fun _ _ _ _ _ _ w => w.elim
end PCO
end
section
/-! ===== the partial calculus by equations, where things lie (written_w by wip/tools/ptab.py) ===== -/
section PEQ
variable {C : CSt} {en : List Int} {h : XH} {Q : PQQ} {Qt Qf : XH → Prop} {R : PRR} {a b c : SX}
theorem qe_1 : pE C (sx 1 a b c) en h Q = (Q [sx_c a b c] h) := id rfl
theorem qe_3 : pE C (sx 3 a b c) en h Q = (Q [en.getD (sx_n a) 0] h) := id rfl
theorem qe_4 : pE C (sx 4 a b c) en h Q = (pE C a en h fun x h1 => Q [h1 (j_hd x).toNat (sx_n b)] h1) := id rfl
theorem qe_5 : pE C (sx 5 a b c) en h Q = (pE C a en h fun x h1 => Q [rfO (j_hd x) (sx_n b)] h1) := id rfl
theorem qe_7 : pE C (sx 7 a b z0) en h Q = (pE C a en h fun x h1 => pE C b en h1 fun y h2 => 0 ≤ j_hd y ∧ j_hd y < lnO (j_hd x) → Q [h2 (j_hd x).toNat (j_hd y).toNat] h2) := id rfl
theorem qe_72 : pE C (sx 7 a b (sv 2)) en h Q = (pE C a en h fun x h1 => pE C b en h1 fun y h2 => 0 ≤ j_hd y ∧ j_hd y < 24 → Q [j_hd y] h2) := id rfl
theorem qe_10 : pE C (sx 10 a b z0) en h Q = (pE C a en h fun x h1 => Q [lnO (j_hd x)] h1) := id rfl
theorem qe_102 : pE C (sx 10 a b (sv 2)) en h Q = (pE C a en h fun x h1 => Q [24] h1) := id rfl
theorem qe_13 : pE C (sx 13 a b c) en h Q = (pE C a en h fun x h1 => Q [g_cW (sx_n c) (j_hd x).toNat] h1) := id rfl
theorem qe_14 : pE C (sx 14 a b c) en h Q = (pE C a en h fun x h1 => pE C b en h1 fun y h2 => Q [j_iop (sx_n c) (j_hd x) (j_hd y)] h2) := id rfl
theorem qe_15 : pE C (sx 15 a b c) en h Q = (pE C a en h fun x h1 => pE C b en h1 fun y h2 => Q [j_lop (sx_n c) (j_hd x) (j_hd y)] h2) := id rfl
theorem qe_16 : pE C (sx 16 a b c) en h Q = (pE C a en h fun x h1 => pE C b en h1 fun y h2 => Q [j_lsh (sx_n c) (j_hd x) (j_hd y)] h2) := id rfl
theorem qe_17 : pE C (sx 17 a b c) en h Q = (pE C a en h fun x h1 => pE C b en h1 fun y h2 => j_hd y ≠ 0 → Q [j_div (sx_n c) (j_hd x) (j_hd y)] h2) := id rfl
theorem qe_18 : pE C (sx 18 a b c) en h Q = (pE C a en h fun x h1 => Q [j_un (sx_n c) (j_hd x)] h1) := id rfl
theorem qe_20 : pE C (sx 20 a b c) en h Q = (pE C a en h fun x h1 => pE C b en h1 fun y h2 => (j_cmp (sx_n c) (j_hd x) (j_hd y) = true → Q [1] h2) ∧ (j_cmp (sx_n c) (j_hd x) (j_hd y) = false → Q [0] h2)) := id rfl
theorem qe_22 : pE C (sx 22 a b c) en h Q = (pE C a en h fun x h1 => pE C b en h1 fun y h2 => (j_cmp (sx_n c) (j_hd x) (j_hd y) = true → Q [1] h2) ∧ (j_cmp (sx_n c) (j_hd x) (j_hd y) = false → Q [0] h2)) := id rfl
theorem qe_23 : pE C (sx 23 a b c) en h Q = (pE C a en h fun x h1 => pE C b en h1 fun y h2 => (j_cmp (sx_n c) (j_hd x) (j_hd y) = true → Q [1] h2) ∧ (j_cmp (sx_n c) (j_hd x) (j_hd y) = false → Q [0] h2)) := id rfl
theorem qe_21 : pE C (sx 21 a b c) en h Q = (pE C a en h fun x h1 => (j_cmp (sx_n c) (j_hd x) 0 = true → Q [1] h1) ∧ (j_cmp (sx_n c) (j_hd x) 0 = false → Q [0] h1)) := id rfl
theorem qe_24 : pE C (sx 24 a b c) en h Q = (pE C a en h Q) := id rfl
theorem qe_25 : pE C (sx 25 a b c) en h Q = (pC C a en h (fun h1 => pC C b en h1 (fun h2 => Q [1] h2) (fun h2 => Q [0] h2)) (fun h1 => Q [0] h1)) := id rfl
theorem qe_26 : pE C (sx 26 a b c) en h Q = (pC C a en h (fun h1 => Q [1] h1) (fun h1 => pC C b en h1 (fun h2 => Q [1] h2) (fun h2 => Q [0] h2))) := id rfl
theorem qe_27 : pE C (sx 27 a b c) en h Q = (pC C a en h (fun h1 => Q [0] h1) (fun h1 => Q [1] h1)) := id rfl
theorem qe_28 : pE C (sx 28 a b c) en h Q = (pC C a en h (fun h1 => pE C b en h1 Q) (fun h1 => pE C c en h1 Q)) := id rfl
theorem qe_30 : pE C (sx 30 a b c) en h Q = (pE C a en h fun x h1 => pE C b en h1 fun y h2 => Q (x ++ y) h2) := id rfl
theorem qe_31 : pE C (sx 31 a b c) en h Q = (Q [] h) := id rfl
theorem qe_32 : pE C (sx 32 a b c) en h Q = (pE C a en h fun av h1 => C (sx_n b) av h1 fun k r h2 => k = 1 → Q r h2) := id rfl
theorem qc_20 : pC C (sx 20 a b c) en h Qt Qf = (pE C a en h fun x h1 => pE C b en h1 fun y h2 => (j_cmp (sx_n c) (j_hd x) (j_hd y) = true → Qt h2) ∧ (j_cmp (sx_n c) (j_hd x) (j_hd y) = false → Qf h2)) := id rfl
theorem qc_22 : pC C (sx 22 a b c) en h Qt Qf = (pE C a en h fun x h1 => pE C b en h1 fun y h2 => (j_cmp (sx_n c) (j_hd x) (j_hd y) = true → Qt h2) ∧ (j_cmp (sx_n c) (j_hd x) (j_hd y) = false → Qf h2)) := id rfl
theorem qc_23 : pC C (sx 23 a b c) en h Qt Qf = (pE C a en h fun x h1 => pE C b en h1 fun y h2 => (j_cmp (sx_n c) (j_hd x) (j_hd y) = true → Qt h2) ∧ (j_cmp (sx_n c) (j_hd x) (j_hd y) = false → Qf h2)) := id rfl
theorem qc_21 : pC C (sx 21 a b c) en h Qt Qf = (pE C a en h fun x h1 => (j_cmp (sx_n c) (j_hd x) 0 = true → Qt h1) ∧ (j_cmp (sx_n c) (j_hd x) 0 = false → Qf h1)) := id rfl
theorem qc_24 : pC C (sx 24 a b c) en h Qt Qf = (pC C a en h Qt Qf) := id rfl
theorem qc_25 : pC C (sx 25 a b c) en h Qt Qf = (pC C a en h (fun h1 => pC C b en h1 Qt Qf) Qf) := id rfl
theorem qc_26 : pC C (sx 26 a b c) en h Qt Qf = (pC C a en h Qt (fun h1 => pC C b en h1 Qt Qf)) := id rfl
theorem qc_27 : pC C (sx 27 a b c) en h Qt Qf = (pC C a en h Qf Qt) := id rfl
theorem qc_1 : pC C (sx 1 a b c) en h Qt Qf = (pE C (sx 1 a b c) en h fun x h1 => (j_hd x ≠ 0 → Qt h1) ∧ (j_hd x = 0 → Qf h1)) := id rfl
theorem qc_3 : pC C (sx 3 a b c) en h Qt Qf = (pE C (sx 3 a b c) en h fun x h1 => (j_hd x ≠ 0 → Qt h1) ∧ (j_hd x = 0 → Qf h1)) := id rfl
theorem qc_4 : pC C (sx 4 a b c) en h Qt Qf = (pE C (sx 4 a b c) en h fun x h1 => (j_hd x ≠ 0 → Qt h1) ∧ (j_hd x = 0 → Qf h1)) := id rfl
theorem qc_7 : pC C (sx 7 a b c) en h Qt Qf = (pE C (sx 7 a b c) en h fun x h1 => (j_hd x ≠ 0 → Qt h1) ∧ (j_hd x = 0 → Qf h1)) := id rfl
theorem qc_13 : pC C (sx 13 a b c) en h Qt Qf = (pE C (sx 13 a b c) en h fun x h1 => (j_hd x ≠ 0 → Qt h1) ∧ (j_hd x = 0 → Qf h1)) := id rfl
theorem qc_28 : pC C (sx 28 a b c) en h Qt Qf = (pE C (sx 28 a b c) en h fun x h1 => (j_hd x ≠ 0 → Qt h1) ∧ (j_hd x = 0 → Qf h1)) := id rfl
theorem qc_32 : pC C (sx 32 a b c) en h Qt Qf = (pE C (sx 32 a b c) en h fun x h1 => (j_hd x ≠ 0 → Qt h1) ∧ (j_hd x = 0 → Qf h1)) := id rfl
theorem qs_1 : pS C (sx 1 a b c) en h R = (R 0 [] en h) := id rfl
theorem qs_2 : pS C (sx 2 a b c) en h R = (pS C a en h (fun k vs en1 h1 => (k = 0 → pS C b en1 h1 R) ∧ (k ≠ 0 → R k vs en1 h1))) := id rfl
theorem qs_3 : pS C (sx 3 a b c) en h R = (pE C b en h fun x h1 => R 0 [] (en.set (sx_n a) (j_hd x)) h1) := id rfl
theorem qs_4 : pS C (sx 4 a b c) en h R = (R 0 [] (en.set (sx_n a) (j32 (en.getD (sx_n a) 0 + (if sx_n c = 0 then (sx_n b : Int) else -(sx_n b : Int))))) h) := id rfl
theorem qs_5 : pS C (sx 5 a b c) en h R = (pE C a en h fun x h1 => pE C b en h1 fun y h2 => R 0 [] en (j_up h2 (j_hd x).toNat (sx_n c) (j_hd y))) := id rfl
theorem qs_6 : pS C (sx 6 a b c) en h R = (pE C a en h fun x h1 => pE C b en h1 fun y h2 => R 0 [] en (j_up h2 (j_hd x).toNat (sx_n c / 16) (j_iop (sx_n c % 16) (h1 (j_hd x).toNat (sx_n c / 16)) (j_hd y)))) := id rfl
theorem qs_9 : pS C (sx 9 a b c) en h R = (pE C a en h fun _ h1 => R 0 [] en h1) := id rfl
theorem qs_10 : pS C (sx 10 a b c) en h R = (pC C a en h (fun h1 => pS C b en h1 R) (fun h1 => R 0 [] en h1)) := id rfl
theorem qs_11 : pS C (sx 11 a b c) en h R = (pC C a en h (fun h1 => pS C b en h1 R) (fun h1 => pS C c en h1 R)) := id rfl
theorem qs_14 : pS C (sx 14 a b c) en h R = (R 2 [] en h) := id rfl
theorem qs_15 : pS C (sx 15 a b c) en h R = (R 3 [] en h) := id rfl
theorem qs_16 : pS C (sx 16 a b c) en h R = (pE C a en h fun x h1 => R 1 x en h1) := id rfl
theorem qs_27 : pS C (sx 27 a b c) en h R = (pE C a en h fun x h1 => (j_hd x = 0 ∨ j_hd x = 1) → R 1 x en h1) := id rfl
theorem qs_17 : pS C (sx 17 a b c) en h R = (R 1 [] en h) := id rfl
theorem qs_18 : pS C (sx 18 a b c) en h R = (R 4 [] en h) := id rfl
theorem qs_19 : pS C (sx 19 a b c) en h R = (pE C a en h fun x h1 => pS C b (j_hd x :: en) h1 fun c vs en1 h2 => (c = 2 → R 0 vs en1 h2) ∧ (c ≠ 2 → R c vs en1 h2)) := id rfl
theorem qs_20 : pS C (sx 20 a b c) en h R = (pS C a en h R) := id rfl
theorem qs_22 : pS C (sx 22 a b c) en h R = (R 0 [] en h) := id rfl
theorem qs_23 : pS C (sx 23 a b c) en h R = (pE C a en h fun x h1 => pE C b en h1 fun y h2 => (j_hd y = 0 ∨ j_hd y = 1) → R 0 [] en (j_up h2 (j_hd x).toNat (sx_n c) (j_hd y))) := id rfl
theorem qs_28 : pS C (sx 28 a b c) en h R = (pC C a en h (fun h1 => pS C b en h1 R) (fun h1 => R 2 [] en h1)) := id rfl
theorem qs_25 : pS C (sx 25 a b c) en h R = (((sx_l a).any (fun n => decide (en.headD 0 = sx_z n)) = true → pS C b en.tail h fun c vs en1 h1 => c ≠ 0 → R c vs en1 h1) ∧ ((sx_l a).any (fun n => decide (en.headD 0 = sx_z n)) = false → pS C c en h R)) := id rfl
theorem qs_26 : pS C (sx 26 a b c) en h R = (pS C a en.tail h R) := id rfl
theorem qs_7 {ty_w : Nat} {v : SX} : pS C (sx 7 a b (so ty_w v)) en h R = (pE C a en h fun x h1 => pE C b en h1 fun y h2 => pE C v en h2 fun z h3 => 0 ≤ j_hd y ∧ j_hd y < lnO (j_hd x) → R 0 [] en (j_up h3 (j_hd x).toNat (j_hd y).toNat (w_ty ty_w (j_hd z)))) := id rfl
theorem qs_8 {op_w : Nat} {v : SX} : pS C (sx 8 a b (so op_w v)) en h R = (pE C a en h fun x h1 => pE C b en h1 fun y h2 => pE C v en h2 fun z h3 => 0 ≤ j_hd y ∧ j_hd y < lnO (j_hd x) → R 0 [] en (j_up h3 (j_hd x).toNat (j_hd y).toNat (j_iop op_w (h2 (j_hd x).toNat (j_hd y).toNat) (j_hd z)))) := id rfl
theorem qp_lp (I : List Int → XH → Prop) (h0 : I en h) (hs : ∀ en h, I en h → pC C a en h (fun h1 => pS C b en h1 fun k vs en1 h2 => (k = 0 ∨ k = 3 → pS C c en1 h2 fun k' _ en2 h3 => k' = 0 → I en2 h3) ∧ (k = 2 → R 0 [] en1 h2) ∧ (k ≠ 0 → k ≠ 2 → k ≠ 3 → R k vs en1 h2)) (fun h1 => R 0 [] en h1)) : pS C (sx 12 a b c) en h R := ⟨I, h0, hs⟩
theorem qp_dp (I : List Int → XH → Prop) (h0 : I en h) (hs : ∀ en h, I en h → pS C b en h fun k vs en1 h2 => (k = 0 ∨ k = 3 → pC C a en1 h2 (fun h3 => I en1 h3) (fun h3 => R 0 [] en1 h3)) ∧ (k = 2 → R 0 [] en1 h2) ∧ (k ≠ 0 → k ≠ 2 → k ≠ 3 → R k vs en1 h2)) : pS C (sx 13 a b c) en h R := ⟨I, h0, hs⟩
end PEQ
theorem ro_0_0 : rfO 0 0 = 1 := by decide +kernel
theorem ro_0_1 : rfO 0 1 = 6 := by decide +kernel
theorem ro_0_2 : rfO 0 2 = 29 := by decide +kernel
theorem ro_0_3 : rfO 0 3 = 52 := by decide +kernel
theorem ro_0_4 : rfO 0 4 = 61 := by decide +kernel
theorem ro_0_5 : rfO 0 5 = 70 := by decide +kernel
theorem ro_0_6 : rfO 0 6 = 91 := by decide +kernel
theorem ro_0_7 : rfO 0 7 = 112 := by decide +kernel
theorem ro_0_8 : rfO 0 8 = 133 := by decide +kernel
theorem ro_0_9 : rfO 0 9 = 154 := by decide +kernel
theorem ro_0_10 : rfO 0 10 = 157 := by decide +kernel
theorem ro_0_11 : rfO 0 11 = 178 := by decide +kernel
theorem ro_0_12 : rfO 0 12 = 180 := by decide +kernel
theorem ro_1_0 : rfO 1 0 = 2 := by decide +kernel
theorem ro_1_1 : rfO 1 1 = 4 := by decide +kernel
theorem ro_2_0 : rfO 2 0 = 3 := by decide +kernel
theorem ro_4_0 : rfO 4 0 = 5 := by decide +kernel
theorem ro_6_0 : rfO 6 0 = 7 := by decide +kernel
theorem ro_6_1 : rfO 6 1 = 8 := by decide +kernel
theorem ro_6_2 : rfO 6 2 = 10 := by decide +kernel
theorem ro_6_3 : rfO 6 3 = 12 := by decide +kernel
theorem ro_6_4 : rfO 6 4 = 14 := by decide +kernel
theorem ro_6_5 : rfO 6 5 = 16 := by decide +kernel
theorem ro_6_6 : rfO 6 6 = 18 := by decide +kernel
theorem ro_6_7 : rfO 6 7 = 20 := by decide +kernel
theorem ro_6_8 : rfO 6 8 = 22 := by decide +kernel
theorem ro_8_0 : rfO 8 0 = 9 := by decide +kernel
theorem ro_10_0 : rfO 10 0 = 11 := by decide +kernel
theorem ro_12_0 : rfO 12 0 = 13 := by decide +kernel
theorem ro_14_0 : rfO 14 0 = 15 := by decide +kernel
theorem ro_16_0 : rfO 16 0 = 17 := by decide +kernel
theorem ro_18_0 : rfO 18 0 = 19 := by decide +kernel
theorem ro_20_0 : rfO 20 0 = 21 := by decide +kernel
theorem ro_22_0 : rfO 22 0 = 23 := by decide +kernel
theorem ro_22_1 : rfO 22 1 = 25 := by decide +kernel
theorem ro_22_2 : rfO 22 2 = 27 := by decide +kernel
theorem ro_23_0 : rfO 23 0 = 24 := by decide +kernel
theorem ro_25_0 : rfO 25 0 = 26 := by decide +kernel
theorem ro_27_0 : rfO 27 0 = 28 := by decide +kernel
theorem ro_29_0 : rfO 29 0 = 30 := by decide +kernel
theorem ro_29_1 : rfO 29 1 = 31 := by decide +kernel
theorem ro_29_2 : rfO 29 2 = 33 := by decide +kernel
theorem ro_29_3 : rfO 29 3 = 35 := by decide +kernel
theorem ro_29_4 : rfO 29 4 = 37 := by decide +kernel
theorem ro_29_5 : rfO 29 5 = 39 := by decide +kernel
theorem ro_29_6 : rfO 29 6 = 41 := by decide +kernel
theorem ro_29_7 : rfO 29 7 = 43 := by decide +kernel
theorem ro_29_8 : rfO 29 8 = 45 := by decide +kernel
theorem ro_31_0 : rfO 31 0 = 32 := by decide +kernel
theorem ro_33_0 : rfO 33 0 = 34 := by decide +kernel
theorem ro_35_0 : rfO 35 0 = 36 := by decide +kernel
theorem ro_37_0 : rfO 37 0 = 38 := by decide +kernel
theorem ro_39_0 : rfO 39 0 = 40 := by decide +kernel
theorem ro_41_0 : rfO 41 0 = 42 := by decide +kernel
theorem ro_43_0 : rfO 43 0 = 44 := by decide +kernel
theorem ro_45_0 : rfO 45 0 = 46 := by decide +kernel
theorem ro_45_1 : rfO 45 1 = 48 := by decide +kernel
theorem ro_45_2 : rfO 45 2 = 50 := by decide +kernel
theorem ro_46_0 : rfO 46 0 = 47 := by decide +kernel
theorem ro_48_0 : rfO 48 0 = 49 := by decide +kernel
theorem ro_50_0 : rfO 50 0 = 51 := by decide +kernel
theorem ro_52_0 : rfO 52 0 = 53 := by decide +kernel
theorem ro_52_1 : rfO 52 1 = 55 := by decide +kernel
theorem ro_52_2 : rfO 52 2 = 57 := by decide +kernel
theorem ro_52_3 : rfO 52 3 = 59 := by decide +kernel
theorem ro_53_0 : rfO 53 0 = 54 := by decide +kernel
theorem ro_55_0 : rfO 55 0 = 56 := by decide +kernel
theorem ro_57_0 : rfO 57 0 = 58 := by decide +kernel
theorem ro_59_0 : rfO 59 0 = 60 := by decide +kernel
theorem ro_61_0 : rfO 61 0 = 62 := by decide +kernel
theorem ro_61_1 : rfO 61 1 = 64 := by decide +kernel
theorem ro_61_2 : rfO 61 2 = 66 := by decide +kernel
theorem ro_61_3 : rfO 61 3 = 68 := by decide +kernel
theorem ro_62_0 : rfO 62 0 = 63 := by decide +kernel
theorem ro_64_0 : rfO 64 0 = 65 := by decide +kernel
theorem ro_66_0 : rfO 66 0 = 67 := by decide +kernel
theorem ro_68_0 : rfO 68 0 = 69 := by decide +kernel
theorem ro_70_0 : rfO 70 0 = 71 := by decide +kernel
theorem ro_70_1 : rfO 70 1 = 73 := by decide +kernel
theorem ro_70_2 : rfO 70 2 = 75 := by decide +kernel
theorem ro_70_3 : rfO 70 3 = 77 := by decide +kernel
theorem ro_70_4 : rfO 70 4 = 79 := by decide +kernel
theorem ro_70_5 : rfO 70 5 = 81 := by decide +kernel
theorem ro_70_6 : rfO 70 6 = 83 := by decide +kernel
theorem ro_70_7 : rfO 70 7 = 85 := by decide +kernel
theorem ro_70_8 : rfO 70 8 = 87 := by decide +kernel
theorem ro_70_9 : rfO 70 9 = 89 := by decide +kernel
theorem ro_71_0 : rfO 71 0 = 72 := by decide +kernel
theorem ro_73_0 : rfO 73 0 = 74 := by decide +kernel
theorem ro_75_0 : rfO 75 0 = 76 := by decide +kernel
theorem ro_77_0 : rfO 77 0 = 78 := by decide +kernel
theorem ro_79_0 : rfO 79 0 = 80 := by decide +kernel
theorem ro_81_0 : rfO 81 0 = 82 := by decide +kernel
theorem ro_83_0 : rfO 83 0 = 84 := by decide +kernel
theorem ro_85_0 : rfO 85 0 = 86 := by decide +kernel
theorem ro_87_0 : rfO 87 0 = 88 := by decide +kernel
theorem ro_89_0 : rfO 89 0 = 90 := by decide +kernel
theorem ro_91_0 : rfO 91 0 = 92 := by decide +kernel
theorem ro_91_1 : rfO 91 1 = 94 := by decide +kernel
theorem ro_91_2 : rfO 91 2 = 96 := by decide +kernel
theorem ro_91_3 : rfO 91 3 = 98 := by decide +kernel
theorem ro_91_4 : rfO 91 4 = 100 := by decide +kernel
theorem ro_91_5 : rfO 91 5 = 102 := by decide +kernel
theorem ro_91_6 : rfO 91 6 = 104 := by decide +kernel
theorem ro_91_7 : rfO 91 7 = 106 := by decide +kernel
theorem ro_91_8 : rfO 91 8 = 108 := by decide +kernel
theorem ro_91_9 : rfO 91 9 = 110 := by decide +kernel
theorem ro_92_0 : rfO 92 0 = 93 := by decide +kernel
theorem ro_94_0 : rfO 94 0 = 95 := by decide +kernel
theorem ro_96_0 : rfO 96 0 = 97 := by decide +kernel
theorem ro_98_0 : rfO 98 0 = 99 := by decide +kernel
theorem ro_100_0 : rfO 100 0 = 101 := by decide +kernel
theorem ro_102_0 : rfO 102 0 = 103 := by decide +kernel
theorem ro_104_0 : rfO 104 0 = 105 := by decide +kernel
theorem ro_106_0 : rfO 106 0 = 107 := by decide +kernel
theorem ro_108_0 : rfO 108 0 = 109 := by decide +kernel
theorem ro_110_0 : rfO 110 0 = 111 := by decide +kernel
theorem ro_112_0 : rfO 112 0 = 113 := by decide +kernel
theorem ro_112_1 : rfO 112 1 = 115 := by decide +kernel
theorem ro_112_2 : rfO 112 2 = 117 := by decide +kernel
theorem ro_112_3 : rfO 112 3 = 119 := by decide +kernel
theorem ro_112_4 : rfO 112 4 = 121 := by decide +kernel
theorem ro_112_5 : rfO 112 5 = 123 := by decide +kernel
theorem ro_112_6 : rfO 112 6 = 125 := by decide +kernel
theorem ro_112_7 : rfO 112 7 = 127 := by decide +kernel
theorem ro_112_8 : rfO 112 8 = 129 := by decide +kernel
theorem ro_112_9 : rfO 112 9 = 131 := by decide +kernel
theorem ro_113_0 : rfO 113 0 = 114 := by decide +kernel
theorem ro_115_0 : rfO 115 0 = 116 := by decide +kernel
theorem ro_117_0 : rfO 117 0 = 118 := by decide +kernel
theorem ro_119_0 : rfO 119 0 = 120 := by decide +kernel
theorem ro_121_0 : rfO 121 0 = 122 := by decide +kernel
theorem ro_123_0 : rfO 123 0 = 124 := by decide +kernel
theorem ro_125_0 : rfO 125 0 = 126 := by decide +kernel
theorem ro_127_0 : rfO 127 0 = 128 := by decide +kernel
theorem ro_129_0 : rfO 129 0 = 130 := by decide +kernel
theorem ro_131_0 : rfO 131 0 = 132 := by decide +kernel
theorem ro_133_0 : rfO 133 0 = 134 := by decide +kernel
theorem ro_133_1 : rfO 133 1 = 136 := by decide +kernel
theorem ro_133_2 : rfO 133 2 = 138 := by decide +kernel
theorem ro_133_3 : rfO 133 3 = 140 := by decide +kernel
theorem ro_133_4 : rfO 133 4 = 142 := by decide +kernel
theorem ro_133_5 : rfO 133 5 = 144 := by decide +kernel
theorem ro_133_6 : rfO 133 6 = 146 := by decide +kernel
theorem ro_133_7 : rfO 133 7 = 148 := by decide +kernel
theorem ro_133_8 : rfO 133 8 = 150 := by decide +kernel
theorem ro_133_9 : rfO 133 9 = 152 := by decide +kernel
theorem ro_134_0 : rfO 134 0 = 135 := by decide +kernel
theorem ro_136_0 : rfO 136 0 = 137 := by decide +kernel
theorem ro_138_0 : rfO 138 0 = 139 := by decide +kernel
theorem ro_140_0 : rfO 140 0 = 141 := by decide +kernel
theorem ro_142_0 : rfO 142 0 = 143 := by decide +kernel
theorem ro_144_0 : rfO 144 0 = 145 := by decide +kernel
theorem ro_146_0 : rfO 146 0 = 147 := by decide +kernel
theorem ro_148_0 : rfO 148 0 = 149 := by decide +kernel
theorem ro_150_0 : rfO 150 0 = 151 := by decide +kernel
theorem ro_152_0 : rfO 152 0 = 153 := by decide +kernel
theorem ro_154_0 : rfO 154 0 = 155 := by decide +kernel
theorem ro_155_0 : rfO 155 0 = 156 := by decide +kernel
theorem ro_157_0 : rfO 157 0 = 158 := by decide +kernel
theorem ro_157_1 : rfO 157 1 = 160 := by decide +kernel
theorem ro_157_2 : rfO 157 2 = 162 := by decide +kernel
theorem ro_157_3 : rfO 157 3 = 164 := by decide +kernel
theorem ro_157_4 : rfO 157 4 = 166 := by decide +kernel
theorem ro_157_5 : rfO 157 5 = 168 := by decide +kernel
theorem ro_157_6 : rfO 157 6 = 170 := by decide +kernel
theorem ro_157_7 : rfO 157 7 = 172 := by decide +kernel
theorem ro_157_8 : rfO 157 8 = 174 := by decide +kernel
theorem ro_157_9 : rfO 157 9 = 176 := by decide +kernel
theorem ro_158_0 : rfO 158 0 = 159 := by decide +kernel
theorem ro_160_0 : rfO 160 0 = 161 := by decide +kernel
theorem ro_162_0 : rfO 162 0 = 163 := by decide +kernel
theorem ro_164_0 : rfO 164 0 = 165 := by decide +kernel
theorem ro_166_0 : rfO 166 0 = 167 := by decide +kernel
theorem ro_168_0 : rfO 168 0 = 169 := by decide +kernel
theorem ro_170_0 : rfO 170 0 = 171 := by decide +kernel
theorem ro_172_0 : rfO 172 0 = 173 := by decide +kernel
theorem ro_174_0 : rfO 174 0 = 175 := by decide +kernel
theorem ro_176_0 : rfO 176 0 = 177 := by decide +kernel
theorem ro_178_0 : rfO 178 0 = 179 := by decide +kernel
theorem ro_180_0 : rfO 180 0 = 181 := by decide +kernel
theorem ro_182_1 : rfO 182 1 = 183 := by decide +kernel
theorem ro_182_4 : rfO 182 4 = 184 := by decide +kernel
theorem ro_182_5 : rfO 182 5 = 185 := by decide +kernel
theorem ro_182_6 : rfO 182 6 = 186 := by decide +kernel
theorem ro_182_9 : rfO 182 9 = 187 := by decide +kernel
theorem ro_182_10 : rfO 182 10 = 188 := by decide +kernel
theorem ro_182_11 : rfO 182 11 = 189 := by decide +kernel
theorem ro_182_13 : rfO 182 13 = 190 := by decide +kernel
theorem ro_182_14 : rfO 182 14 = 191 := by decide +kernel
theorem ro_182_15 : rfO 182 15 = 192 := by decide +kernel
theorem ro_182_16 : rfO 182 16 = 193 := by decide +kernel
theorem ro_182_17 : rfO 182 17 = 194 := by decide +kernel
theorem ro_182_20 : rfO 182 20 = 195 := by decide +kernel
theorem ro_182_21 : rfO 182 21 = 196 := by decide +kernel
theorem ro_182_22 : rfO 182 22 = 197 := by decide +kernel
theorem ro_182_23 : rfO 182 23 = 198 := by decide +kernel
theorem ro_182_24 : rfO 182 24 = 199 := by decide +kernel
theorem ro_182_26 : rfO 182 26 = 200 := by decide +kernel
theorem ro_182_27 : rfO 182 27 = 201 := by decide +kernel
theorem ro_182_28 : rfO 182 28 = 202 := by decide +kernel
theorem lo_3 : lnO 3 = 1000 := by decide +kernel
theorem lo_5 : lnO 5 = 12 := by decide +kernel
theorem lo_7 : lnO 7 = 14 := by decide +kernel
theorem lo_9 : lnO 9 = 12 := by decide +kernel
theorem lo_11 : lnO 11 = 4 := by decide +kernel
theorem lo_13 : lnO 13 = 4 := by decide +kernel
theorem lo_15 : lnO 15 = 52 := by decide +kernel
theorem lo_17 : lnO 17 = 6 := by decide +kernel
theorem lo_19 : lnO 19 = 6 := by decide +kernel
theorem lo_21 : lnO 21 = 6 := by decide +kernel
theorem lo_24 : lnO 24 = 1000 := by decide +kernel
theorem lo_26 : lnO 26 = 64 := by decide +kernel
theorem lo_28 : lnO 28 = 64 := by decide +kernel
theorem lo_30 : lnO 30 = 14 := by decide +kernel
theorem lo_32 : lnO 32 = 12 := by decide +kernel
theorem lo_34 : lnO 34 = 4 := by decide +kernel
theorem lo_36 : lnO 36 = 4 := by decide +kernel
theorem lo_38 : lnO 38 = 52 := by decide +kernel
theorem lo_40 : lnO 40 = 6 := by decide +kernel
theorem lo_42 : lnO 42 = 6 := by decide +kernel
theorem lo_44 : lnO 44 = 6 := by decide +kernel
theorem lo_47 : lnO 47 = 1000 := by decide +kernel
theorem lo_49 : lnO 49 = 64 := by decide +kernel
theorem lo_51 : lnO 51 = 64 := by decide +kernel
theorem lo_54 : lnO 54 = 30 := by decide +kernel
theorem lo_56 : lnO 56 = 30 := by decide +kernel
theorem lo_58 : lnO 58 = 30 := by decide +kernel
theorem lo_60 : lnO 60 = 30 := by decide +kernel
theorem lo_63 : lnO 63 = 30 := by decide +kernel
theorem lo_65 : lnO 65 = 30 := by decide +kernel
theorem lo_67 : lnO 67 = 30 := by decide +kernel
theorem lo_69 : lnO 69 = 30 := by decide +kernel
theorem lo_72 : lnO 72 = 78 := by decide +kernel
theorem lo_74 : lnO 74 = 72 := by decide +kernel
theorem lo_76 : lnO 76 = 12 := by decide +kernel
theorem lo_78 : lnO 78 = 192 := by decide +kernel
theorem lo_80 : lnO 80 = 64 := by decide +kernel
theorem lo_82 : lnO 82 = 64 := by decide +kernel
theorem lo_84 : lnO 84 = 4 := by decide +kernel
theorem lo_86 : lnO 86 = 8 := by decide +kernel
theorem lo_88 : lnO 88 = 8 := by decide +kernel
theorem lo_90 : lnO 90 = 8 := by decide +kernel
theorem lo_93 : lnO 93 = 78 := by decide +kernel
theorem lo_95 : lnO 95 = 72 := by decide +kernel
theorem lo_97 : lnO 97 = 12 := by decide +kernel
theorem lo_99 : lnO 99 = 192 := by decide +kernel
theorem lo_101 : lnO 101 = 64 := by decide +kernel
theorem lo_103 : lnO 103 = 64 := by decide +kernel
theorem lo_105 : lnO 105 = 4 := by decide +kernel
theorem lo_107 : lnO 107 = 8 := by decide +kernel
theorem lo_109 : lnO 109 = 8 := by decide +kernel
theorem lo_111 : lnO 111 = 8 := by decide +kernel
theorem lo_114 : lnO 114 = 78 := by decide +kernel
theorem lo_116 : lnO 116 = 72 := by decide +kernel
theorem lo_118 : lnO 118 = 12 := by decide +kernel
theorem lo_120 : lnO 120 = 192 := by decide +kernel
theorem lo_122 : lnO 122 = 64 := by decide +kernel
theorem lo_124 : lnO 124 = 64 := by decide +kernel
theorem lo_126 : lnO 126 = 4 := by decide +kernel
theorem lo_128 : lnO 128 = 8 := by decide +kernel
theorem lo_130 : lnO 130 = 8 := by decide +kernel
theorem lo_132 : lnO 132 = 8 := by decide +kernel
theorem lo_135 : lnO 135 = 78 := by decide +kernel
theorem lo_137 : lnO 137 = 72 := by decide +kernel
theorem lo_139 : lnO 139 = 12 := by decide +kernel
theorem lo_141 : lnO 141 = 192 := by decide +kernel
theorem lo_143 : lnO 143 = 64 := by decide +kernel
theorem lo_145 : lnO 145 = 64 := by decide +kernel
theorem lo_147 : lnO 147 = 4 := by decide +kernel
theorem lo_149 : lnO 149 = 8 := by decide +kernel
theorem lo_151 : lnO 151 = 8 := by decide +kernel
theorem lo_153 : lnO 153 = 8 := by decide +kernel
theorem lo_156 : lnO 156 = 128 := by decide +kernel
theorem lo_159 : lnO 159 = 6 := by decide +kernel
theorem lo_161 : lnO 161 = 6 := by decide +kernel
theorem lo_163 : lnO 163 = 6 := by decide +kernel
theorem lo_165 : lnO 165 = 4 := by decide +kernel
theorem lo_167 : lnO 167 = 4 := by decide +kernel
theorem lo_169 : lnO 169 = 4 := by decide +kernel
theorem lo_171 : lnO 171 = 4 := by decide +kernel
theorem lo_173 : lnO 173 = 6 := by decide +kernel
theorem lo_175 : lnO 175 = 6 := by decide +kernel
theorem lo_177 : lnO 177 = 6 := by decide +kernel
theorem lo_179 : lnO 179 = 4 := by decide +kernel
theorem lo_181 : lnO 181 = 4 := by decide +kernel
theorem lo_183 : lnO 183 = 1000 := by decide +kernel
theorem lo_184 : lnO 184 = 1002 := by decide +kernel
theorem lo_185 : lnO 185 = 1002 := by decide +kernel
theorem lo_186 : lnO 186 = 1002 := by decide +kernel
theorem lo_187 : lnO 187 = 24 := by decide +kernel
theorem lo_188 : lnO 188 = 190 := by decide +kernel
theorem lo_189 : lnO 189 = 2200 := by decide +kernel
theorem lo_190 : lnO 190 = 28 := by decide +kernel
theorem lo_191 : lnO 191 = 250 := by decide +kernel
theorem lo_192 : lnO 192 = 4 := by decide +kernel
theorem lo_193 : lnO 193 = 64 := by decide +kernel
theorem lo_194 : lnO 194 = 5148 := by decide +kernel
theorem lo_195 : lnO 195 = 2 := by decide +kernel
theorem lo_196 : lnO 196 = 6 := by decide +kernel
theorem lo_197 : lnO 197 = 6 := by decide +kernel
theorem lo_198 : lnO 198 = 4 := by decide +kernel
theorem lo_199 : lnO 199 = 4 := by decide +kernel
theorem lo_200 : lnO 200 = 6 := by decide +kernel
theorem lo_201 : lnO 201 = 6 := by decide +kernel
theorem lo_202 : lnO 202 = 6 := by decide +kernel
theorem lo_203 : lnO 203 = 1 := by decide +kernel
section KC2
variable {b c : SX}
theorem kn_3 : sx_c (sv 3) b (sv 1) = -3 := id rfl
theorem kn_4 : sx_c (sv 4) b (sv 1) = -4 := id rfl
theorem kn_5 : sx_c (sv 5) b (sv 1) = -5 := id rfl
theorem kn_6 : sx_c (sv 6) b (sv 1) = -6 := id rfl
theorem kn_7 : sx_c (sv 7) b (sv 1) = -7 := id rfl
theorem kn_8 : sx_c (sv 8) b (sv 1) = -8 := id rfl
theorem kn_9 : sx_c (sv 9) b (sv 1) = -9 := id rfl
theorem kn_10 : sx_c (sv 10) b (sv 1) = -10 := id rfl
theorem kc_11 : sx_c (sv 11) b z0 = 11 := id rfl
theorem kn_11 : sx_c (sv 11) b (sv 1) = -11 := id rfl
theorem kn_12 : sx_c (sv 12) b (sv 1) = -12 := id rfl
theorem kn_13 : sx_c (sv 13) b (sv 1) = -13 := id rfl
theorem kn_14 : sx_c (sv 14) b (sv 1) = -14 := id rfl
theorem kc_15 : sx_c (sv 15) b z0 = 15 := id rfl
theorem kn_15 : sx_c (sv 15) b (sv 1) = -15 := id rfl
theorem kc_23 : sx_c (sv 23) b z0 = 23 := id rfl
theorem kc_52 : sx_c (sv 52) b z0 = 52 := id rfl
theorem kc_63 : sx_c (sv 63) b z0 = 63 := id rfl
theorem kc_72 : sx_c (sv 72) b z0 = 72 := id rfl
theorem kc_128 : sx_c (sv 128) b z0 = 128 := id rfl
theorem kc_192 : sx_c (sv 192) b z0 = 192 := id rfl
theorem kc_252645135 : sx_c (sv 252645135) b z0 = 252645135 := id rfl
theorem kc_858993459 : sx_c (sv 858993459) b z0 = 858993459 := id rfl
theorem kc_1431655765 : sx_c (sv 1431655765) b z0 = 1431655765 := id rfl
theorem kc_2147483647 : sx_c (sv 2147483647) b z0 = 2147483647 := id rfl
end KC2
end
section
/-! ===== contracts: rows, signs ===== -/
/-- what a row holds_w at a place_w -/
def rg (h : XH) (o i : Int) : Int := if 0 ≤ i ∧ i < lnO (rfO o 0) then h (rfO o 0).toNat i.toNat else 0
/-- a row with another number_w at a place_w -/
def rs (h : XH) (o i v : Int) : XH := if 0 ≤ i ∧ i < lnO (rfO o 0) then j_up h (rfO o 0).toNat i.toNat v else h
abbrev KT : Type := List Int → XH → (Nat → List Int → XH → Prop) → Prop
def k54 : KT := fun av h Q => match av with
  | [o, i] => Q 1 [rg h o i] h
  | _ => False
def k55 : KT := fun av h Q => match av with
  | [o, i, v] => Q 1 [] (rs h o i v)
  | _ => False
def k68 : KT := fun av h Q => match av with
  | [o, i] => Q 1 [if 0 ≤ i ∧ i < h o.toNat 1 ∧ i < lnO (rfO o 0) then h (rfO o 0).toNat i.toNat else -1] h
  | _ => False
/-- a truth as_w a number_w -/
def jp (p : Prop) [Decidable p] : Int := if p then 1 else 0
abbrev isL (c : Int) : Prop := 97 ≤ c ∧ c ≤ 122
abbrev isD (c : Int) : Prop := 48 ≤ c ∧ c ≤ 57
abbrev isT (c : Int) : Prop := (40 ≤ c ∧ c ≤ 43) ∨ c = 45 ∨ (59 ≤ c ∧ c ≤ 61)
def k69 : KT := fun av h Q => match av with
  | [c] => Q 1 [jp (isL c)] h
  | _ => False
def k70 : KT := fun av h Q => match av with
  | [c] => Q 1 [jp (isD c)] h
  | _ => False
def k71 : KT := fun av h Q => match av with
  | [c] => Q 1 [jp (isT c)] h
  | _ => False
def k72 : KT := fun av h Q => match av with
  | [o] => Q 1 [jp (h o.toNat 3 = 0)] h
  | _ => False
def k73 : KT := fun av h Q => match av with
  | [o] => Q 1 [jp (h o.toNat 3 = 2)] h
  | _ => False
def k74 : KT := fun av h Q => match av with
  | [o, c] => Q 1 [jp (h o.toNat 3 = 3 ∧ h o.toNat 5 = c)] h
  | _ => False
def k75 : KT := fun av h Q => match av with
  | [o] => Q 1 [if h o.toNat 3 = 3 then h o.toNat 5 else 0] h
  | _ => False
/-- the reference_w: letters_w, digits_w, signs -/
def k186 : KT := fun av h Q => match av with
  | [c] => Q 1 [jp (isL c)] h
  | _ => False
def k187 : KT := fun av h Q => match av with
  | [c] => Q 1 [jp (isD c)] h
  | _ => False
def k188 : KT := fun av h Q => match av with
  | [c] => Q 1 [if isL c then j32 (c - 96) else j32 (c - 21)] h
  | _ => False
def k189 : KT := fun av h Q => match av with
  | [c] => Q 1 [jp (isT c)] h
  | _ => False
def k198 : KT := fun av h Q => match av with
  | [v, l, u] => Q 1 [jp (l ≤ v ∧ v ≤ u)] h
  | _ => False
def k192 : KT := fun av h Q => match av with
  | [x, c] => x = 182 ∧ Q 1 [jp (h 182 8 = 0 ∧ h 184 (h 182 7).toNat = 3 ∧ h 186 (h 182 7).toNat = c)] h
  | _ => False
def k193 : KT := fun av h Q => match av with
  | [x, w] => x = 182 ∧ Q 1 [jp (h 182 8 = 0 ∧ h 184 (h 182 7).toNat = 1 ∧ h 186 (h 182 7).toNat = h 187 w.toNat)] h
  | _ => False
def k191 : KT := fun av h Q => match av with
  | [x, w] => x = 182 ∧ Q 1 [] (if h 182 8 = 0 then j_up h 182 8 (j32 (w + j32 (16 * h 185 (h 182 7).toNat))) else h)
  | _ => False
def k207 : KT := fun av h Q => match av with
  | [x, w] => x = 182 ∧ Q 1 [h 188 (j32 (95 + w)).toNat] h
  | _ => False
theorem jun2 {x : Int} : j_un 2 x = x := id rfl
section KK1
variable {h : XH} {Q : Nat → List Int → XH → Prop} {o i v c l u w : Int}
theorem kk_54 : k54 [o, i] h Q = Q 1 [rg h o i] h := id rfl
theorem kk_55 : k55 [o, i, v] h Q = Q 1 [] (rs h o i v) := id rfl
theorem kk_68 : k68 [o, i] h Q = Q 1 [if 0 ≤ i ∧ i < h o.toNat 1 ∧ i < lnO (rfO o 0) then h (rfO o 0).toNat i.toNat else -1] h := id rfl
theorem kk_69 : k69 [c] h Q = Q 1 [jp (isL c)] h := id rfl
theorem kk_70 : k70 [c] h Q = Q 1 [jp (isD c)] h := id rfl
theorem kk_71 : k71 [c] h Q = Q 1 [jp (isT c)] h := id rfl
theorem kk_72 : k72 [o] h Q = Q 1 [jp (h o.toNat 3 = 0)] h := id rfl
theorem kk_73 : k73 [o] h Q = Q 1 [jp (h o.toNat 3 = 2)] h := id rfl
theorem kk_74 : k74 [o, c] h Q = Q 1 [jp (h o.toNat 3 = 3 ∧ h o.toNat 5 = c)] h := id rfl
theorem kk_75 : k75 [o] h Q = Q 1 [if h o.toNat 3 = 3 then h o.toNat 5 else 0] h := id rfl
theorem kk_186 : k186 [c] h Q = Q 1 [jp (isL c)] h := id rfl
theorem kk_187 : k187 [c] h Q = Q 1 [jp (isD c)] h := id rfl
theorem kk_188 : k188 [c] h Q = Q 1 [if isL c then j32 (c - 96) else j32 (c - 21)] h := id rfl
theorem kk_189 : k189 [c] h Q = Q 1 [jp (isT c)] h := id rfl
theorem kk_198 : k198 [v, l, u] h Q = Q 1 [jp (l ≤ v ∧ v ≤ u)] h := id rfl
theorem kk_192 : k192 [182, c] h Q = Q 1 [jp (h 182 8 = 0 ∧ h 184 (h 182 7).toNat = 3 ∧ h 186 (h 182 7).toNat = c)] h := propext ⟨fun a => a.2, fun a => ⟨rfl, a⟩⟩
theorem kk_193 : k193 [182, w] h Q = Q 1 [jp (h 182 8 = 0 ∧ h 184 (h 182 7).toNat = 1 ∧ h 186 (h 182 7).toNat = h 187 w.toNat)] h := propext ⟨fun a => a.2, fun a => ⟨rfl, a⟩⟩
theorem kk_191 : k191 [182, w] h Q = Q 1 [] (if h 182 8 = 0 then j_up h 182 8 (j32 (w + j32 (16 * h 185 (h 182 7).toNat))) else h) := propext ⟨fun a => a.2, fun a => ⟨rfl, a⟩⟩
theorem kk_207 : k207 [182, w] h Q = Q 1 [h 188 (j32 (95 + w)).toNat] h := propext ⟨fun a => a.2, fun a => ⟨rfl, a⟩⟩
theorem jp_ne {p : Prop} [Decidable p] : (jp p ≠ 0) = p := propext ⟨fun a => Decidable.of_not_not fun b => a (if_neg b), fun a b => absurd ((if_pos a).symm.trans b) (by decide)⟩
theorem jp_nn {p : Prop} [Decidable p] : (¬ jp p = 0) = p := jp_ne
theorem jp_eq {p : Prop} [Decidable p] : (jp p = 0) = ¬ p := propext ⟨fun a b => absurd ((if_pos b).symm.trans a) (by decide), fun a => if_neg a⟩
theorem jp_t {p : Prop} [Decidable p] (a : p) : jp p = 1 := if_pos a
theorem jp_f {p : Prop} [Decidable p] (a : ¬ p) : jp p = 0 := if_neg a
end KK1
def CS1 : CSt := fun f => match f with
  | 54 => k54
  | 55 => k55
  | 68 => k68
  | 69 => k69
  | 70 => k70
  | 71 => k71
  | 72 => k72
  | 73 => k73
  | 74 => k74
  | 75 => k75
  | 186 => k186
  | 187 => k187
  | 188 => k188
  | 189 => k189
  | 191 => k191
  | 192 => k192
  | 193 => k193
  | 198 => k198
  | 207 => k207
  | _ => fun _ _ _ => False
theorem cs1_54 {av : List Int} {h : XH} {Q : Nat → List Int → XH → Prop} : CS1 54 av h Q = k54 av h Q := id rfl
theorem cs1_55 {av : List Int} {h : XH} {Q : Nat → List Int → XH → Prop} : CS1 55 av h Q = k55 av h Q := id rfl
theorem cs1_68 {av : List Int} {h : XH} {Q : Nat → List Int → XH → Prop} : CS1 68 av h Q = k68 av h Q := id rfl
theorem cs1_69 {av : List Int} {h : XH} {Q : Nat → List Int → XH → Prop} : CS1 69 av h Q = k69 av h Q := id rfl
theorem cs1_70 {av : List Int} {h : XH} {Q : Nat → List Int → XH → Prop} : CS1 70 av h Q = k70 av h Q := id rfl
theorem cs1_71 {av : List Int} {h : XH} {Q : Nat → List Int → XH → Prop} : CS1 71 av h Q = k71 av h Q := id rfl
theorem cs1_72 {av : List Int} {h : XH} {Q : Nat → List Int → XH → Prop} : CS1 72 av h Q = k72 av h Q := id rfl
theorem cs1_73 {av : List Int} {h : XH} {Q : Nat → List Int → XH → Prop} : CS1 73 av h Q = k73 av h Q := id rfl
theorem cs1_74 {av : List Int} {h : XH} {Q : Nat → List Int → XH → Prop} : CS1 74 av h Q = k74 av h Q := id rfl
theorem cs1_75 {av : List Int} {h : XH} {Q : Nat → List Int → XH → Prop} : CS1 75 av h Q = k75 av h Q := id rfl
theorem cs1_186 {av : List Int} {h : XH} {Q : Nat → List Int → XH → Prop} : CS1 186 av h Q = k186 av h Q := id rfl
theorem cs1_187 {av : List Int} {h : XH} {Q : Nat → List Int → XH → Prop} : CS1 187 av h Q = k187 av h Q := id rfl
theorem cs1_188 {av : List Int} {h : XH} {Q : Nat → List Int → XH → Prop} : CS1 188 av h Q = k188 av h Q := id rfl
theorem cs1_189 {av : List Int} {h : XH} {Q : Nat → List Int → XH → Prop} : CS1 189 av h Q = k189 av h Q := id rfl
theorem cs1_191 {av : List Int} {h : XH} {Q : Nat → List Int → XH → Prop} : CS1 191 av h Q = k191 av h Q := id rfl
theorem cs1_192 {av : List Int} {h : XH} {Q : Nat → List Int → XH → Prop} : CS1 192 av h Q = k192 av h Q := id rfl
theorem cs1_193 {av : List Int} {h : XH} {Q : Nat → List Int → XH → Prop} : CS1 193 av h Q = k193 av h Q := id rfl
theorem cs1_198 {av : List Int} {h : XH} {Q : Nat → List Int → XH → Prop} : CS1 198 av h Q = k198 av h Q := id rfl
theorem cs1_207 {av : List Int} {h : XH} {Q : Nat → List Int → XH → Prop} : CS1 207 av h Q = k207 av h Q := id rfl
theorem m_54 : BodyOK CS1 CS1 54 := fun av h Q hQ => by
  rw [cs1_54] at hQ
  unfold k54 at hQ
  split at hQ
  · rename_i o i
    unfold rg at hQ
    show pS CS1 bb_54 [o, i] h _
    unfold bb_54
    simp only [qe_1, qe_3, qe_4, qe_5, qe_7, qe_72, qe_10, qe_102, qe_13, qe_14, qe_15, qe_16, qe_17, qe_18, qe_20, qe_22, qe_23, qe_21, qe_24, qe_25, qe_26, qe_27, qe_28, qe_30, qe_31, qe_32, qc_20, qc_22, qc_23, qc_21, qc_24, qc_25, qc_26, qc_27, qc_1, qc_3, qc_4, qc_7, qc_13, qc_28, qc_32, qs_1, qs_2, qs_3, qs_4, qs_5, qs_6, qs_9, qs_10, qs_11, qs_14, qs_15, qs_16, qs_27, qs_17, qs_18, qs_19, qs_20, qs_22, qs_23, qs_28, qs_25, qs_26, qs_7, qs_8, kc_1, kn_1, kc_2, kn_2, kc_3, kn_3, kc_4, kn_4, kc_5, kn_5, kc_6, kn_6, kc_7, kn_7, kc_8, kn_8, kc_9, kn_9, kc_10, kn_10, kc_11, kn_11, kc_12, kn_12, kc_13, kn_13, kc_14, kn_14, kc_15, kn_15, kc_16, kc_17, kc_18, kc_19, kc_20, kc_21, kc_22, kc_23, kc_30, kc_32, kc_40, kc_43, kc_45, kc_48, kc_52, kc_56, kc_57, kc_59, kc_60, kc_61, kc_63, kc_64, kc_72, kc_78, kc_97, kc_99, kc_122, kc_126, kc_128, kc_192, kc_200, kc_255, kc_999, kc_1000, kc_9999, kn_9999, kc_10000, kc_12345, kc_65536, kc_252645135, kc_858993459, kc_1103515245, kc_1431655765, kc_2147483647, kc_0, kc_24, kc_28, kc_37, kc_41, kc_42, kc_73, kc_91, kc_95, kc_96, kc_98, kc_100, kc_112, kc_125, kc_150, kc_162, kc_163, kc_168, kc_186, kc_190, kc_250, kc_355, kc_356, kc_404, kc_405, kc_429, kc_573, kc_1002, kc_1100, kc_1891, kc_2200, kc_4719, kc_4869, kc_4881, kc_5148, kc_19741, kc_25433, kc_320403, kc_628412, kc_629093, kc_660401, kc_679843, kc_918640, kc_979410, kc_1178088, kc_6232410, kc_24644941, kc_36238189, kc_38270444, kc_392531318, kc_425693491, kc_1342154595, kc_2147483648, kc_42328242873, kc_891704255789, kc_1722105685577, kc_1858726030364, ct_0, ct_1, ct_2, ct_3, ct_4, ct_5, cf_0, cf_1, cf_2, cf_3, cf_4, cf_5, w_ty6, w_ty7, m_sv, m_z0, m_hd, m_g0, m_gs, m_s0, m_ss, m_ap, m_an, forall_const, true_and, and_true, ne_eq, not_true_eq_false, not_false_eq_true, false_implies, true_implies, implies_true, eq_self, reduceCtorEq, Nat.reduceDiv, Nat.reduceMod, Int.reduceToNat, or_true, true_or, or_false, false_or, or_self, m_it, m_if, m_c1, m_01, m_02, m_03, m_04, m_10, m_12, m_13, m_14, m_20, m_21, m_23, m_24, m_30, m_31, m_32, m_34, m_40, m_41, m_42, m_43, Int.reduceLE, Int.reduceLT, Int.reduceGE, Int.reduceGT, Int.reduceNeg, Int.reduceAdd, Int.reduceSub, Int.reduceMul, Int.reduceEq, Int.reduceNe, Nat.reduceAdd, jun2, ro_0_0, ro_0_1, ro_0_2, ro_0_3, ro_0_4, ro_0_5, ro_0_6, ro_0_7, ro_0_8, ro_0_9, ro_0_10, ro_0_11, ro_0_12, ro_1_0, ro_1_1, ro_2_0, ro_4_0, ro_6_0, ro_6_1, ro_6_2, ro_6_3, ro_6_4, ro_6_5, ro_6_6, ro_6_7, ro_6_8, ro_8_0, ro_10_0, ro_12_0, ro_14_0, ro_16_0, ro_18_0, ro_20_0, ro_22_0, ro_22_1, ro_22_2, ro_23_0, ro_25_0, ro_27_0, ro_29_0, ro_29_1, ro_29_2, ro_29_3, ro_29_4, ro_29_5, ro_29_6, ro_29_7, ro_29_8, ro_31_0, ro_33_0, ro_35_0, ro_37_0, ro_39_0, ro_41_0, ro_43_0, ro_45_0, ro_45_1, ro_45_2, ro_46_0, ro_48_0, ro_50_0, ro_52_0, ro_52_1, ro_52_2, ro_52_3, ro_53_0, ro_55_0, ro_57_0, ro_59_0, ro_61_0, ro_61_1, ro_61_2, ro_61_3, ro_62_0, ro_64_0, ro_66_0, ro_68_0, ro_70_0, ro_70_1, ro_70_2, ro_70_3, ro_70_4, ro_70_5, ro_70_6, ro_70_7, ro_70_8, ro_70_9, ro_71_0, ro_73_0, ro_75_0, ro_77_0, ro_79_0, ro_81_0, ro_83_0, ro_85_0, ro_87_0, ro_89_0, ro_91_0, ro_91_1, ro_91_2, ro_91_3, ro_91_4, ro_91_5, ro_91_6, ro_91_7, ro_91_8, ro_91_9, ro_92_0, ro_94_0, ro_96_0, ro_98_0, ro_100_0, ro_102_0, ro_104_0, ro_106_0, ro_108_0, ro_110_0, ro_112_0, ro_112_1, ro_112_2, ro_112_3, ro_112_4, ro_112_5, ro_112_6, ro_112_7, ro_112_8, ro_112_9, ro_113_0, ro_115_0, ro_117_0, ro_119_0, ro_121_0, ro_123_0, ro_125_0, ro_127_0, ro_129_0, ro_131_0, ro_133_0, ro_133_1, ro_133_2, ro_133_3, ro_133_4, ro_133_5, ro_133_6, ro_133_7, ro_133_8, ro_133_9, ro_134_0, ro_136_0, ro_138_0, ro_140_0, ro_142_0, ro_144_0, ro_146_0, ro_148_0, ro_150_0, ro_152_0, ro_154_0, ro_155_0, ro_157_0, ro_157_1, ro_157_2, ro_157_3, ro_157_4, ro_157_5, ro_157_6, ro_157_7, ro_157_8, ro_157_9, ro_158_0, ro_160_0, ro_162_0, ro_164_0, ro_166_0, ro_168_0, ro_170_0, ro_172_0, ro_174_0, ro_176_0, ro_178_0, ro_180_0, ro_182_1, ro_182_4, ro_182_5, ro_182_6, ro_182_9, ro_182_10, ro_182_11, ro_182_13, ro_182_14, ro_182_15, ro_182_16, ro_182_17, ro_182_20, ro_182_21, ro_182_22, ro_182_23, ro_182_24, ro_182_26, ro_182_27, ro_182_28, lo_3, lo_5, lo_7, lo_9, lo_11, lo_13, lo_15, lo_17, lo_19, lo_21, lo_24, lo_26, lo_28, lo_30, lo_32, lo_34, lo_36, lo_38, lo_40, lo_42, lo_44, lo_47, lo_49, lo_51, lo_54, lo_56, lo_58, lo_60, lo_63, lo_65, lo_67, lo_69, lo_72, lo_74, lo_76, lo_78, lo_80, lo_82, lo_84, lo_86, lo_88, lo_90, lo_93, lo_95, lo_97, lo_99, lo_101, lo_103, lo_105, lo_107, lo_109, lo_111, lo_114, lo_116, lo_118, lo_120, lo_122, lo_124, lo_126, lo_128, lo_130, lo_132, lo_135, lo_137, lo_139, lo_141, lo_143, lo_145, lo_147, lo_149, lo_151, lo_153, lo_156, lo_159, lo_161, lo_163, lo_165, lo_167, lo_169, lo_171, lo_173, lo_175, lo_177, lo_179, lo_181, lo_183, lo_184, lo_185, lo_186, lo_187, lo_188, lo_189, lo_190, lo_191, lo_192, lo_193, lo_194, lo_195, lo_196, lo_197, lo_198, lo_199, lo_200, lo_201, lo_202, lo_203]
    repeat' (first | exact hQ | (refine ⟨?_, ?_⟩) | (intro _))
    all_goals first | exact hQ | (rw [if_pos (by omega)] at hQ; exact hQ) | (rw [if_neg (by omega)] at hQ; exact hQ)
  · exact hQ.elim
theorem m_55 : BodyOK CS1 CS1 55 := fun av h Q hQ => by
  rw [cs1_55] at hQ
  unfold k55 at hQ
  split at hQ
  · rename_i o i v
    unfold rs at hQ
    show pS CS1 bb_55 [o, i, v] h _
    unfold bb_55
    simp only [qe_1, qe_3, qe_4, qe_5, qe_7, qe_72, qe_10, qe_102, qe_13, qe_14, qe_15, qe_16, qe_17, qe_18, qe_20, qe_22, qe_23, qe_21, qe_24, qe_25, qe_26, qe_27, qe_28, qe_30, qe_31, qe_32, qc_20, qc_22, qc_23, qc_21, qc_24, qc_25, qc_26, qc_27, qc_1, qc_3, qc_4, qc_7, qc_13, qc_28, qc_32, qs_1, qs_2, qs_3, qs_4, qs_5, qs_6, qs_9, qs_10, qs_11, qs_14, qs_15, qs_16, qs_27, qs_17, qs_18, qs_19, qs_20, qs_22, qs_23, qs_28, qs_25, qs_26, qs_7, qs_8, kc_1, kn_1, kc_2, kn_2, kc_3, kn_3, kc_4, kn_4, kc_5, kn_5, kc_6, kn_6, kc_7, kn_7, kc_8, kn_8, kc_9, kn_9, kc_10, kn_10, kc_11, kn_11, kc_12, kn_12, kc_13, kn_13, kc_14, kn_14, kc_15, kn_15, kc_16, kc_17, kc_18, kc_19, kc_20, kc_21, kc_22, kc_23, kc_30, kc_32, kc_40, kc_43, kc_45, kc_48, kc_52, kc_56, kc_57, kc_59, kc_60, kc_61, kc_63, kc_64, kc_72, kc_78, kc_97, kc_99, kc_122, kc_126, kc_128, kc_192, kc_200, kc_255, kc_999, kc_1000, kc_9999, kn_9999, kc_10000, kc_12345, kc_65536, kc_252645135, kc_858993459, kc_1103515245, kc_1431655765, kc_2147483647, kc_0, kc_24, kc_28, kc_37, kc_41, kc_42, kc_73, kc_91, kc_95, kc_96, kc_98, kc_100, kc_112, kc_125, kc_150, kc_162, kc_163, kc_168, kc_186, kc_190, kc_250, kc_355, kc_356, kc_404, kc_405, kc_429, kc_573, kc_1002, kc_1100, kc_1891, kc_2200, kc_4719, kc_4869, kc_4881, kc_5148, kc_19741, kc_25433, kc_320403, kc_628412, kc_629093, kc_660401, kc_679843, kc_918640, kc_979410, kc_1178088, kc_6232410, kc_24644941, kc_36238189, kc_38270444, kc_392531318, kc_425693491, kc_1342154595, kc_2147483648, kc_42328242873, kc_891704255789, kc_1722105685577, kc_1858726030364, ct_0, ct_1, ct_2, ct_3, ct_4, ct_5, cf_0, cf_1, cf_2, cf_3, cf_4, cf_5, w_ty6, w_ty7, m_sv, m_z0, m_hd, m_g0, m_gs, m_s0, m_ss, m_ap, m_an, forall_const, true_and, and_true, ne_eq, not_true_eq_false, not_false_eq_true, false_implies, true_implies, implies_true, eq_self, reduceCtorEq, Nat.reduceDiv, Nat.reduceMod, Int.reduceToNat, or_true, true_or, or_false, false_or, or_self, m_it, m_if, m_c1, m_01, m_02, m_03, m_04, m_10, m_12, m_13, m_14, m_20, m_21, m_23, m_24, m_30, m_31, m_32, m_34, m_40, m_41, m_42, m_43, Int.reduceLE, Int.reduceLT, Int.reduceGE, Int.reduceGT, Int.reduceNeg, Int.reduceAdd, Int.reduceSub, Int.reduceMul, Int.reduceEq, Int.reduceNe, Nat.reduceAdd, jun2, ro_0_0, ro_0_1, ro_0_2, ro_0_3, ro_0_4, ro_0_5, ro_0_6, ro_0_7, ro_0_8, ro_0_9, ro_0_10, ro_0_11, ro_0_12, ro_1_0, ro_1_1, ro_2_0, ro_4_0, ro_6_0, ro_6_1, ro_6_2, ro_6_3, ro_6_4, ro_6_5, ro_6_6, ro_6_7, ro_6_8, ro_8_0, ro_10_0, ro_12_0, ro_14_0, ro_16_0, ro_18_0, ro_20_0, ro_22_0, ro_22_1, ro_22_2, ro_23_0, ro_25_0, ro_27_0, ro_29_0, ro_29_1, ro_29_2, ro_29_3, ro_29_4, ro_29_5, ro_29_6, ro_29_7, ro_29_8, ro_31_0, ro_33_0, ro_35_0, ro_37_0, ro_39_0, ro_41_0, ro_43_0, ro_45_0, ro_45_1, ro_45_2, ro_46_0, ro_48_0, ro_50_0, ro_52_0, ro_52_1, ro_52_2, ro_52_3, ro_53_0, ro_55_0, ro_57_0, ro_59_0, ro_61_0, ro_61_1, ro_61_2, ro_61_3, ro_62_0, ro_64_0, ro_66_0, ro_68_0, ro_70_0, ro_70_1, ro_70_2, ro_70_3, ro_70_4, ro_70_5, ro_70_6, ro_70_7, ro_70_8, ro_70_9, ro_71_0, ro_73_0, ro_75_0, ro_77_0, ro_79_0, ro_81_0, ro_83_0, ro_85_0, ro_87_0, ro_89_0, ro_91_0, ro_91_1, ro_91_2, ro_91_3, ro_91_4, ro_91_5, ro_91_6, ro_91_7, ro_91_8, ro_91_9, ro_92_0, ro_94_0, ro_96_0, ro_98_0, ro_100_0, ro_102_0, ro_104_0, ro_106_0, ro_108_0, ro_110_0, ro_112_0, ro_112_1, ro_112_2, ro_112_3, ro_112_4, ro_112_5, ro_112_6, ro_112_7, ro_112_8, ro_112_9, ro_113_0, ro_115_0, ro_117_0, ro_119_0, ro_121_0, ro_123_0, ro_125_0, ro_127_0, ro_129_0, ro_131_0, ro_133_0, ro_133_1, ro_133_2, ro_133_3, ro_133_4, ro_133_5, ro_133_6, ro_133_7, ro_133_8, ro_133_9, ro_134_0, ro_136_0, ro_138_0, ro_140_0, ro_142_0, ro_144_0, ro_146_0, ro_148_0, ro_150_0, ro_152_0, ro_154_0, ro_155_0, ro_157_0, ro_157_1, ro_157_2, ro_157_3, ro_157_4, ro_157_5, ro_157_6, ro_157_7, ro_157_8, ro_157_9, ro_158_0, ro_160_0, ro_162_0, ro_164_0, ro_166_0, ro_168_0, ro_170_0, ro_172_0, ro_174_0, ro_176_0, ro_178_0, ro_180_0, ro_182_1, ro_182_4, ro_182_5, ro_182_6, ro_182_9, ro_182_10, ro_182_11, ro_182_13, ro_182_14, ro_182_15, ro_182_16, ro_182_17, ro_182_20, ro_182_21, ro_182_22, ro_182_23, ro_182_24, ro_182_26, ro_182_27, ro_182_28, lo_3, lo_5, lo_7, lo_9, lo_11, lo_13, lo_15, lo_17, lo_19, lo_21, lo_24, lo_26, lo_28, lo_30, lo_32, lo_34, lo_36, lo_38, lo_40, lo_42, lo_44, lo_47, lo_49, lo_51, lo_54, lo_56, lo_58, lo_60, lo_63, lo_65, lo_67, lo_69, lo_72, lo_74, lo_76, lo_78, lo_80, lo_82, lo_84, lo_86, lo_88, lo_90, lo_93, lo_95, lo_97, lo_99, lo_101, lo_103, lo_105, lo_107, lo_109, lo_111, lo_114, lo_116, lo_118, lo_120, lo_122, lo_124, lo_126, lo_128, lo_130, lo_132, lo_135, lo_137, lo_139, lo_141, lo_143, lo_145, lo_147, lo_149, lo_151, lo_153, lo_156, lo_159, lo_161, lo_163, lo_165, lo_167, lo_169, lo_171, lo_173, lo_175, lo_177, lo_179, lo_181, lo_183, lo_184, lo_185, lo_186, lo_187, lo_188, lo_189, lo_190, lo_191, lo_192, lo_193, lo_194, lo_195, lo_196, lo_197, lo_198, lo_199, lo_200, lo_201, lo_202, lo_203]
    repeat' (first | exact hQ | (refine ⟨?_, ?_⟩) | (intro _))
    all_goals first | exact hQ | (rw [if_pos (by omega)] at hQ; exact hQ) | (rw [if_neg (by omega)] at hQ; exact hQ)
  · exact hQ.elim
theorem m_68 : BodyOK CS1 CS1 68 := fun av h Q hQ => by
  rw [cs1_68] at hQ
  unfold k68 at hQ
  split at hQ
  · rename_i o i
    show pS CS1 bb_68 [o, i] h _
    unfold bb_68
    simp only [qe_1, qe_3, qe_4, qe_5, qe_7, qe_72, qe_10, qe_102, qe_13, qe_14, qe_15, qe_16, qe_17, qe_18, qe_20, qe_22, qe_23, qe_21, qe_24, qe_25, qe_26, qe_27, qe_28, qe_30, qe_31, qe_32, qc_20, qc_22, qc_23, qc_21, qc_24, qc_25, qc_26, qc_27, qc_1, qc_3, qc_4, qc_7, qc_13, qc_28, qc_32, qs_1, qs_2, qs_3, qs_4, qs_5, qs_6, qs_9, qs_10, qs_11, qs_14, qs_15, qs_16, qs_27, qs_17, qs_18, qs_19, qs_20, qs_22, qs_23, qs_28, qs_25, qs_26, qs_7, qs_8, kc_1, kn_1, kc_2, kn_2, kc_3, kn_3, kc_4, kn_4, kc_5, kn_5, kc_6, kn_6, kc_7, kn_7, kc_8, kn_8, kc_9, kn_9, kc_10, kn_10, kc_11, kn_11, kc_12, kn_12, kc_13, kn_13, kc_14, kn_14, kc_15, kn_15, kc_16, kc_17, kc_18, kc_19, kc_20, kc_21, kc_22, kc_23, kc_30, kc_32, kc_40, kc_43, kc_45, kc_48, kc_52, kc_56, kc_57, kc_59, kc_60, kc_61, kc_63, kc_64, kc_72, kc_78, kc_97, kc_99, kc_122, kc_126, kc_128, kc_192, kc_200, kc_255, kc_999, kc_1000, kc_9999, kn_9999, kc_10000, kc_12345, kc_65536, kc_252645135, kc_858993459, kc_1103515245, kc_1431655765, kc_2147483647, kc_0, kc_24, kc_28, kc_37, kc_41, kc_42, kc_73, kc_91, kc_95, kc_96, kc_98, kc_100, kc_112, kc_125, kc_150, kc_162, kc_163, kc_168, kc_186, kc_190, kc_250, kc_355, kc_356, kc_404, kc_405, kc_429, kc_573, kc_1002, kc_1100, kc_1891, kc_2200, kc_4719, kc_4869, kc_4881, kc_5148, kc_19741, kc_25433, kc_320403, kc_628412, kc_629093, kc_660401, kc_679843, kc_918640, kc_979410, kc_1178088, kc_6232410, kc_24644941, kc_36238189, kc_38270444, kc_392531318, kc_425693491, kc_1342154595, kc_2147483648, kc_42328242873, kc_891704255789, kc_1722105685577, kc_1858726030364, ct_0, ct_1, ct_2, ct_3, ct_4, ct_5, cf_0, cf_1, cf_2, cf_3, cf_4, cf_5, w_ty6, w_ty7, m_sv, m_z0, m_hd, m_g0, m_gs, m_s0, m_ss, m_ap, m_an, forall_const, true_and, and_true, ne_eq, not_true_eq_false, not_false_eq_true, false_implies, true_implies, implies_true, eq_self, reduceCtorEq, Nat.reduceDiv, Nat.reduceMod, Int.reduceToNat, or_true, true_or, or_false, false_or, or_self, m_it, m_if, m_c1, m_01, m_02, m_03, m_04, m_10, m_12, m_13, m_14, m_20, m_21, m_23, m_24, m_30, m_31, m_32, m_34, m_40, m_41, m_42, m_43, Int.reduceLE, Int.reduceLT, Int.reduceGE, Int.reduceGT, Int.reduceNeg, Int.reduceAdd, Int.reduceSub, Int.reduceMul, Int.reduceEq, Int.reduceNe, Nat.reduceAdd, jun2, ro_0_0, ro_0_1, ro_0_2, ro_0_3, ro_0_4, ro_0_5, ro_0_6, ro_0_7, ro_0_8, ro_0_9, ro_0_10, ro_0_11, ro_0_12, ro_1_0, ro_1_1, ro_2_0, ro_4_0, ro_6_0, ro_6_1, ro_6_2, ro_6_3, ro_6_4, ro_6_5, ro_6_6, ro_6_7, ro_6_8, ro_8_0, ro_10_0, ro_12_0, ro_14_0, ro_16_0, ro_18_0, ro_20_0, ro_22_0, ro_22_1, ro_22_2, ro_23_0, ro_25_0, ro_27_0, ro_29_0, ro_29_1, ro_29_2, ro_29_3, ro_29_4, ro_29_5, ro_29_6, ro_29_7, ro_29_8, ro_31_0, ro_33_0, ro_35_0, ro_37_0, ro_39_0, ro_41_0, ro_43_0, ro_45_0, ro_45_1, ro_45_2, ro_46_0, ro_48_0, ro_50_0, ro_52_0, ro_52_1, ro_52_2, ro_52_3, ro_53_0, ro_55_0, ro_57_0, ro_59_0, ro_61_0, ro_61_1, ro_61_2, ro_61_3, ro_62_0, ro_64_0, ro_66_0, ro_68_0, ro_70_0, ro_70_1, ro_70_2, ro_70_3, ro_70_4, ro_70_5, ro_70_6, ro_70_7, ro_70_8, ro_70_9, ro_71_0, ro_73_0, ro_75_0, ro_77_0, ro_79_0, ro_81_0, ro_83_0, ro_85_0, ro_87_0, ro_89_0, ro_91_0, ro_91_1, ro_91_2, ro_91_3, ro_91_4, ro_91_5, ro_91_6, ro_91_7, ro_91_8, ro_91_9, ro_92_0, ro_94_0, ro_96_0, ro_98_0, ro_100_0, ro_102_0, ro_104_0, ro_106_0, ro_108_0, ro_110_0, ro_112_0, ro_112_1, ro_112_2, ro_112_3, ro_112_4, ro_112_5, ro_112_6, ro_112_7, ro_112_8, ro_112_9, ro_113_0, ro_115_0, ro_117_0, ro_119_0, ro_121_0, ro_123_0, ro_125_0, ro_127_0, ro_129_0, ro_131_0, ro_133_0, ro_133_1, ro_133_2, ro_133_3, ro_133_4, ro_133_5, ro_133_6, ro_133_7, ro_133_8, ro_133_9, ro_134_0, ro_136_0, ro_138_0, ro_140_0, ro_142_0, ro_144_0, ro_146_0, ro_148_0, ro_150_0, ro_152_0, ro_154_0, ro_155_0, ro_157_0, ro_157_1, ro_157_2, ro_157_3, ro_157_4, ro_157_5, ro_157_6, ro_157_7, ro_157_8, ro_157_9, ro_158_0, ro_160_0, ro_162_0, ro_164_0, ro_166_0, ro_168_0, ro_170_0, ro_172_0, ro_174_0, ro_176_0, ro_178_0, ro_180_0, ro_182_1, ro_182_4, ro_182_5, ro_182_6, ro_182_9, ro_182_10, ro_182_11, ro_182_13, ro_182_14, ro_182_15, ro_182_16, ro_182_17, ro_182_20, ro_182_21, ro_182_22, ro_182_23, ro_182_24, ro_182_26, ro_182_27, ro_182_28, lo_3, lo_5, lo_7, lo_9, lo_11, lo_13, lo_15, lo_17, lo_19, lo_21, lo_24, lo_26, lo_28, lo_30, lo_32, lo_34, lo_36, lo_38, lo_40, lo_42, lo_44, lo_47, lo_49, lo_51, lo_54, lo_56, lo_58, lo_60, lo_63, lo_65, lo_67, lo_69, lo_72, lo_74, lo_76, lo_78, lo_80, lo_82, lo_84, lo_86, lo_88, lo_90, lo_93, lo_95, lo_97, lo_99, lo_101, lo_103, lo_105, lo_107, lo_109, lo_111, lo_114, lo_116, lo_118, lo_120, lo_122, lo_124, lo_126, lo_128, lo_130, lo_132, lo_135, lo_137, lo_139, lo_141, lo_143, lo_145, lo_147, lo_149, lo_151, lo_153, lo_156, lo_159, lo_161, lo_163, lo_165, lo_167, lo_169, lo_171, lo_173, lo_175, lo_177, lo_179, lo_181, lo_183, lo_184, lo_185, lo_186, lo_187, lo_188, lo_189, lo_190, lo_191, lo_192, lo_193, lo_194, lo_195, lo_196, lo_197, lo_198, lo_199, lo_200, lo_201, lo_202, lo_203]
    repeat' (first | exact hQ | (refine ⟨?_, ?_⟩) | (intro _))
    all_goals first | exact hQ | (rw [if_pos (by omega)] at hQ; exact hQ) | (rw [if_neg (by omega)] at hQ; exact hQ)
  · exact hQ.elim
theorem m_69 : BodyOK CS1 CS1 69 := fun av h Q hQ => by
  rw [cs1_69] at hQ
  unfold k69 at hQ
  split at hQ
  · rename_i c
    show pS CS1 bb_69 [c] h _
    unfold bb_69
    simp only [qe_1, qe_3, qe_4, qe_5, qe_7, qe_72, qe_10, qe_102, qe_13, qe_14, qe_15, qe_16, qe_17, qe_18, qe_20, qe_22, qe_23, qe_21, qe_24, qe_25, qe_26, qe_27, qe_28, qe_30, qe_31, qe_32, qc_20, qc_22, qc_23, qc_21, qc_24, qc_25, qc_26, qc_27, qc_1, qc_3, qc_4, qc_7, qc_13, qc_28, qc_32, qs_1, qs_2, qs_3, qs_4, qs_5, qs_6, qs_9, qs_10, qs_11, qs_14, qs_15, qs_16, qs_27, qs_17, qs_18, qs_19, qs_20, qs_22, qs_23, qs_28, qs_25, qs_26, qs_7, qs_8, kc_1, kn_1, kc_2, kn_2, kc_3, kn_3, kc_4, kn_4, kc_5, kn_5, kc_6, kn_6, kc_7, kn_7, kc_8, kn_8, kc_9, kn_9, kc_10, kn_10, kc_11, kn_11, kc_12, kn_12, kc_13, kn_13, kc_14, kn_14, kc_15, kn_15, kc_16, kc_17, kc_18, kc_19, kc_20, kc_21, kc_22, kc_23, kc_30, kc_32, kc_40, kc_43, kc_45, kc_48, kc_52, kc_56, kc_57, kc_59, kc_60, kc_61, kc_63, kc_64, kc_72, kc_78, kc_97, kc_99, kc_122, kc_126, kc_128, kc_192, kc_200, kc_255, kc_999, kc_1000, kc_9999, kn_9999, kc_10000, kc_12345, kc_65536, kc_252645135, kc_858993459, kc_1103515245, kc_1431655765, kc_2147483647, kc_0, kc_24, kc_28, kc_37, kc_41, kc_42, kc_73, kc_91, kc_95, kc_96, kc_98, kc_100, kc_112, kc_125, kc_150, kc_162, kc_163, kc_168, kc_186, kc_190, kc_250, kc_355, kc_356, kc_404, kc_405, kc_429, kc_573, kc_1002, kc_1100, kc_1891, kc_2200, kc_4719, kc_4869, kc_4881, kc_5148, kc_19741, kc_25433, kc_320403, kc_628412, kc_629093, kc_660401, kc_679843, kc_918640, kc_979410, kc_1178088, kc_6232410, kc_24644941, kc_36238189, kc_38270444, kc_392531318, kc_425693491, kc_1342154595, kc_2147483648, kc_42328242873, kc_891704255789, kc_1722105685577, kc_1858726030364, ct_0, ct_1, ct_2, ct_3, ct_4, ct_5, cf_0, cf_1, cf_2, cf_3, cf_4, cf_5, w_ty6, w_ty7, m_sv, m_z0, m_hd, m_g0, m_gs, m_s0, m_ss, m_ap, m_an, forall_const, true_and, and_true, ne_eq, not_true_eq_false, not_false_eq_true, false_implies, true_implies, implies_true, eq_self, reduceCtorEq, Nat.reduceDiv, Nat.reduceMod, Int.reduceToNat, or_true, true_or, or_false, false_or, or_self, m_it, m_if, m_c1, m_01, m_02, m_03, m_04, m_10, m_12, m_13, m_14, m_20, m_21, m_23, m_24, m_30, m_31, m_32, m_34, m_40, m_41, m_42, m_43, Int.reduceLE, Int.reduceLT, Int.reduceGE, Int.reduceGT, Int.reduceNeg, Int.reduceAdd, Int.reduceSub, Int.reduceMul, Int.reduceEq, Int.reduceNe, Nat.reduceAdd, jun2, ro_0_0, ro_0_1, ro_0_2, ro_0_3, ro_0_4, ro_0_5, ro_0_6, ro_0_7, ro_0_8, ro_0_9, ro_0_10, ro_0_11, ro_0_12, ro_1_0, ro_1_1, ro_2_0, ro_4_0, ro_6_0, ro_6_1, ro_6_2, ro_6_3, ro_6_4, ro_6_5, ro_6_6, ro_6_7, ro_6_8, ro_8_0, ro_10_0, ro_12_0, ro_14_0, ro_16_0, ro_18_0, ro_20_0, ro_22_0, ro_22_1, ro_22_2, ro_23_0, ro_25_0, ro_27_0, ro_29_0, ro_29_1, ro_29_2, ro_29_3, ro_29_4, ro_29_5, ro_29_6, ro_29_7, ro_29_8, ro_31_0, ro_33_0, ro_35_0, ro_37_0, ro_39_0, ro_41_0, ro_43_0, ro_45_0, ro_45_1, ro_45_2, ro_46_0, ro_48_0, ro_50_0, ro_52_0, ro_52_1, ro_52_2, ro_52_3, ro_53_0, ro_55_0, ro_57_0, ro_59_0, ro_61_0, ro_61_1, ro_61_2, ro_61_3, ro_62_0, ro_64_0, ro_66_0, ro_68_0, ro_70_0, ro_70_1, ro_70_2, ro_70_3, ro_70_4, ro_70_5, ro_70_6, ro_70_7, ro_70_8, ro_70_9, ro_71_0, ro_73_0, ro_75_0, ro_77_0, ro_79_0, ro_81_0, ro_83_0, ro_85_0, ro_87_0, ro_89_0, ro_91_0, ro_91_1, ro_91_2, ro_91_3, ro_91_4, ro_91_5, ro_91_6, ro_91_7, ro_91_8, ro_91_9, ro_92_0, ro_94_0, ro_96_0, ro_98_0, ro_100_0, ro_102_0, ro_104_0, ro_106_0, ro_108_0, ro_110_0, ro_112_0, ro_112_1, ro_112_2, ro_112_3, ro_112_4, ro_112_5, ro_112_6, ro_112_7, ro_112_8, ro_112_9, ro_113_0, ro_115_0, ro_117_0, ro_119_0, ro_121_0, ro_123_0, ro_125_0, ro_127_0, ro_129_0, ro_131_0, ro_133_0, ro_133_1, ro_133_2, ro_133_3, ro_133_4, ro_133_5, ro_133_6, ro_133_7, ro_133_8, ro_133_9, ro_134_0, ro_136_0, ro_138_0, ro_140_0, ro_142_0, ro_144_0, ro_146_0, ro_148_0, ro_150_0, ro_152_0, ro_154_0, ro_155_0, ro_157_0, ro_157_1, ro_157_2, ro_157_3, ro_157_4, ro_157_5, ro_157_6, ro_157_7, ro_157_8, ro_157_9, ro_158_0, ro_160_0, ro_162_0, ro_164_0, ro_166_0, ro_168_0, ro_170_0, ro_172_0, ro_174_0, ro_176_0, ro_178_0, ro_180_0, ro_182_1, ro_182_4, ro_182_5, ro_182_6, ro_182_9, ro_182_10, ro_182_11, ro_182_13, ro_182_14, ro_182_15, ro_182_16, ro_182_17, ro_182_20, ro_182_21, ro_182_22, ro_182_23, ro_182_24, ro_182_26, ro_182_27, ro_182_28, lo_3, lo_5, lo_7, lo_9, lo_11, lo_13, lo_15, lo_17, lo_19, lo_21, lo_24, lo_26, lo_28, lo_30, lo_32, lo_34, lo_36, lo_38, lo_40, lo_42, lo_44, lo_47, lo_49, lo_51, lo_54, lo_56, lo_58, lo_60, lo_63, lo_65, lo_67, lo_69, lo_72, lo_74, lo_76, lo_78, lo_80, lo_82, lo_84, lo_86, lo_88, lo_90, lo_93, lo_95, lo_97, lo_99, lo_101, lo_103, lo_105, lo_107, lo_109, lo_111, lo_114, lo_116, lo_118, lo_120, lo_122, lo_124, lo_126, lo_128, lo_130, lo_132, lo_135, lo_137, lo_139, lo_141, lo_143, lo_145, lo_147, lo_149, lo_151, lo_153, lo_156, lo_159, lo_161, lo_163, lo_165, lo_167, lo_169, lo_171, lo_173, lo_175, lo_177, lo_179, lo_181, lo_183, lo_184, lo_185, lo_186, lo_187, lo_188, lo_189, lo_190, lo_191, lo_192, lo_193, lo_194, lo_195, lo_196, lo_197, lo_198, lo_199, lo_200, lo_201, lo_202, lo_203]
    repeat' (first | exact hQ | (refine ⟨?_, ?_⟩) | (intro _))
    all_goals first | exact hQ | (rw [jp_t (by omega)] at hQ; exact hQ) | (rw [jp_f (by omega)] at hQ; exact hQ)
  · exact hQ.elim
theorem m_70 : BodyOK CS1 CS1 70 := fun av h Q hQ => by
  rw [cs1_70] at hQ
  unfold k70 at hQ
  split at hQ
  · rename_i c
    show pS CS1 bb_70 [c] h _
    unfold bb_70
    simp only [qe_1, qe_3, qe_4, qe_5, qe_7, qe_72, qe_10, qe_102, qe_13, qe_14, qe_15, qe_16, qe_17, qe_18, qe_20, qe_22, qe_23, qe_21, qe_24, qe_25, qe_26, qe_27, qe_28, qe_30, qe_31, qe_32, qc_20, qc_22, qc_23, qc_21, qc_24, qc_25, qc_26, qc_27, qc_1, qc_3, qc_4, qc_7, qc_13, qc_28, qc_32, qs_1, qs_2, qs_3, qs_4, qs_5, qs_6, qs_9, qs_10, qs_11, qs_14, qs_15, qs_16, qs_27, qs_17, qs_18, qs_19, qs_20, qs_22, qs_23, qs_28, qs_25, qs_26, qs_7, qs_8, kc_1, kn_1, kc_2, kn_2, kc_3, kn_3, kc_4, kn_4, kc_5, kn_5, kc_6, kn_6, kc_7, kn_7, kc_8, kn_8, kc_9, kn_9, kc_10, kn_10, kc_11, kn_11, kc_12, kn_12, kc_13, kn_13, kc_14, kn_14, kc_15, kn_15, kc_16, kc_17, kc_18, kc_19, kc_20, kc_21, kc_22, kc_23, kc_30, kc_32, kc_40, kc_43, kc_45, kc_48, kc_52, kc_56, kc_57, kc_59, kc_60, kc_61, kc_63, kc_64, kc_72, kc_78, kc_97, kc_99, kc_122, kc_126, kc_128, kc_192, kc_200, kc_255, kc_999, kc_1000, kc_9999, kn_9999, kc_10000, kc_12345, kc_65536, kc_252645135, kc_858993459, kc_1103515245, kc_1431655765, kc_2147483647, kc_0, kc_24, kc_28, kc_37, kc_41, kc_42, kc_73, kc_91, kc_95, kc_96, kc_98, kc_100, kc_112, kc_125, kc_150, kc_162, kc_163, kc_168, kc_186, kc_190, kc_250, kc_355, kc_356, kc_404, kc_405, kc_429, kc_573, kc_1002, kc_1100, kc_1891, kc_2200, kc_4719, kc_4869, kc_4881, kc_5148, kc_19741, kc_25433, kc_320403, kc_628412, kc_629093, kc_660401, kc_679843, kc_918640, kc_979410, kc_1178088, kc_6232410, kc_24644941, kc_36238189, kc_38270444, kc_392531318, kc_425693491, kc_1342154595, kc_2147483648, kc_42328242873, kc_891704255789, kc_1722105685577, kc_1858726030364, ct_0, ct_1, ct_2, ct_3, ct_4, ct_5, cf_0, cf_1, cf_2, cf_3, cf_4, cf_5, w_ty6, w_ty7, m_sv, m_z0, m_hd, m_g0, m_gs, m_s0, m_ss, m_ap, m_an, forall_const, true_and, and_true, ne_eq, not_true_eq_false, not_false_eq_true, false_implies, true_implies, implies_true, eq_self, reduceCtorEq, Nat.reduceDiv, Nat.reduceMod, Int.reduceToNat, or_true, true_or, or_false, false_or, or_self, m_it, m_if, m_c1, m_01, m_02, m_03, m_04, m_10, m_12, m_13, m_14, m_20, m_21, m_23, m_24, m_30, m_31, m_32, m_34, m_40, m_41, m_42, m_43, Int.reduceLE, Int.reduceLT, Int.reduceGE, Int.reduceGT, Int.reduceNeg, Int.reduceAdd, Int.reduceSub, Int.reduceMul, Int.reduceEq, Int.reduceNe, Nat.reduceAdd, jun2, ro_0_0, ro_0_1, ro_0_2, ro_0_3, ro_0_4, ro_0_5, ro_0_6, ro_0_7, ro_0_8, ro_0_9, ro_0_10, ro_0_11, ro_0_12, ro_1_0, ro_1_1, ro_2_0, ro_4_0, ro_6_0, ro_6_1, ro_6_2, ro_6_3, ro_6_4, ro_6_5, ro_6_6, ro_6_7, ro_6_8, ro_8_0, ro_10_0, ro_12_0, ro_14_0, ro_16_0, ro_18_0, ro_20_0, ro_22_0, ro_22_1, ro_22_2, ro_23_0, ro_25_0, ro_27_0, ro_29_0, ro_29_1, ro_29_2, ro_29_3, ro_29_4, ro_29_5, ro_29_6, ro_29_7, ro_29_8, ro_31_0, ro_33_0, ro_35_0, ro_37_0, ro_39_0, ro_41_0, ro_43_0, ro_45_0, ro_45_1, ro_45_2, ro_46_0, ro_48_0, ro_50_0, ro_52_0, ro_52_1, ro_52_2, ro_52_3, ro_53_0, ro_55_0, ro_57_0, ro_59_0, ro_61_0, ro_61_1, ro_61_2, ro_61_3, ro_62_0, ro_64_0, ro_66_0, ro_68_0, ro_70_0, ro_70_1, ro_70_2, ro_70_3, ro_70_4, ro_70_5, ro_70_6, ro_70_7, ro_70_8, ro_70_9, ro_71_0, ro_73_0, ro_75_0, ro_77_0, ro_79_0, ro_81_0, ro_83_0, ro_85_0, ro_87_0, ro_89_0, ro_91_0, ro_91_1, ro_91_2, ro_91_3, ro_91_4, ro_91_5, ro_91_6, ro_91_7, ro_91_8, ro_91_9, ro_92_0, ro_94_0, ro_96_0, ro_98_0, ro_100_0, ro_102_0, ro_104_0, ro_106_0, ro_108_0, ro_110_0, ro_112_0, ro_112_1, ro_112_2, ro_112_3, ro_112_4, ro_112_5, ro_112_6, ro_112_7, ro_112_8, ro_112_9, ro_113_0, ro_115_0, ro_117_0, ro_119_0, ro_121_0, ro_123_0, ro_125_0, ro_127_0, ro_129_0, ro_131_0, ro_133_0, ro_133_1, ro_133_2, ro_133_3, ro_133_4, ro_133_5, ro_133_6, ro_133_7, ro_133_8, ro_133_9, ro_134_0, ro_136_0, ro_138_0, ro_140_0, ro_142_0, ro_144_0, ro_146_0, ro_148_0, ro_150_0, ro_152_0, ro_154_0, ro_155_0, ro_157_0, ro_157_1, ro_157_2, ro_157_3, ro_157_4, ro_157_5, ro_157_6, ro_157_7, ro_157_8, ro_157_9, ro_158_0, ro_160_0, ro_162_0, ro_164_0, ro_166_0, ro_168_0, ro_170_0, ro_172_0, ro_174_0, ro_176_0, ro_178_0, ro_180_0, ro_182_1, ro_182_4, ro_182_5, ro_182_6, ro_182_9, ro_182_10, ro_182_11, ro_182_13, ro_182_14, ro_182_15, ro_182_16, ro_182_17, ro_182_20, ro_182_21, ro_182_22, ro_182_23, ro_182_24, ro_182_26, ro_182_27, ro_182_28, lo_3, lo_5, lo_7, lo_9, lo_11, lo_13, lo_15, lo_17, lo_19, lo_21, lo_24, lo_26, lo_28, lo_30, lo_32, lo_34, lo_36, lo_38, lo_40, lo_42, lo_44, lo_47, lo_49, lo_51, lo_54, lo_56, lo_58, lo_60, lo_63, lo_65, lo_67, lo_69, lo_72, lo_74, lo_76, lo_78, lo_80, lo_82, lo_84, lo_86, lo_88, lo_90, lo_93, lo_95, lo_97, lo_99, lo_101, lo_103, lo_105, lo_107, lo_109, lo_111, lo_114, lo_116, lo_118, lo_120, lo_122, lo_124, lo_126, lo_128, lo_130, lo_132, lo_135, lo_137, lo_139, lo_141, lo_143, lo_145, lo_147, lo_149, lo_151, lo_153, lo_156, lo_159, lo_161, lo_163, lo_165, lo_167, lo_169, lo_171, lo_173, lo_175, lo_177, lo_179, lo_181, lo_183, lo_184, lo_185, lo_186, lo_187, lo_188, lo_189, lo_190, lo_191, lo_192, lo_193, lo_194, lo_195, lo_196, lo_197, lo_198, lo_199, lo_200, lo_201, lo_202, lo_203]
    repeat' (first | exact hQ | (refine ⟨?_, ?_⟩) | (intro _))
    all_goals first | exact hQ | (rw [jp_t (by omega)] at hQ; exact hQ) | (rw [jp_f (by omega)] at hQ; exact hQ)
  · exact hQ.elim
theorem m_71 : BodyOK CS1 CS1 71 := fun av h Q hQ => by
  rw [cs1_71] at hQ
  unfold k71 at hQ
  split at hQ
  · rename_i c
    show pS CS1 bb_71 [c] h _
    unfold bb_71
    simp only [qe_1, qe_3, qe_4, qe_5, qe_7, qe_72, qe_10, qe_102, qe_13, qe_14, qe_15, qe_16, qe_17, qe_18, qe_20, qe_22, qe_23, qe_21, qe_24, qe_25, qe_26, qe_27, qe_28, qe_30, qe_31, qe_32, qc_20, qc_22, qc_23, qc_21, qc_24, qc_25, qc_26, qc_27, qc_1, qc_3, qc_4, qc_7, qc_13, qc_28, qc_32, qs_1, qs_2, qs_3, qs_4, qs_5, qs_6, qs_9, qs_10, qs_11, qs_14, qs_15, qs_16, qs_27, qs_17, qs_18, qs_19, qs_20, qs_22, qs_23, qs_28, qs_25, qs_26, qs_7, qs_8, kc_1, kn_1, kc_2, kn_2, kc_3, kn_3, kc_4, kn_4, kc_5, kn_5, kc_6, kn_6, kc_7, kn_7, kc_8, kn_8, kc_9, kn_9, kc_10, kn_10, kc_11, kn_11, kc_12, kn_12, kc_13, kn_13, kc_14, kn_14, kc_15, kn_15, kc_16, kc_17, kc_18, kc_19, kc_20, kc_21, kc_22, kc_23, kc_30, kc_32, kc_40, kc_43, kc_45, kc_48, kc_52, kc_56, kc_57, kc_59, kc_60, kc_61, kc_63, kc_64, kc_72, kc_78, kc_97, kc_99, kc_122, kc_126, kc_128, kc_192, kc_200, kc_255, kc_999, kc_1000, kc_9999, kn_9999, kc_10000, kc_12345, kc_65536, kc_252645135, kc_858993459, kc_1103515245, kc_1431655765, kc_2147483647, kc_0, kc_24, kc_28, kc_37, kc_41, kc_42, kc_73, kc_91, kc_95, kc_96, kc_98, kc_100, kc_112, kc_125, kc_150, kc_162, kc_163, kc_168, kc_186, kc_190, kc_250, kc_355, kc_356, kc_404, kc_405, kc_429, kc_573, kc_1002, kc_1100, kc_1891, kc_2200, kc_4719, kc_4869, kc_4881, kc_5148, kc_19741, kc_25433, kc_320403, kc_628412, kc_629093, kc_660401, kc_679843, kc_918640, kc_979410, kc_1178088, kc_6232410, kc_24644941, kc_36238189, kc_38270444, kc_392531318, kc_425693491, kc_1342154595, kc_2147483648, kc_42328242873, kc_891704255789, kc_1722105685577, kc_1858726030364, ct_0, ct_1, ct_2, ct_3, ct_4, ct_5, cf_0, cf_1, cf_2, cf_3, cf_4, cf_5, w_ty6, w_ty7, m_sv, m_z0, m_hd, m_g0, m_gs, m_s0, m_ss, m_ap, m_an, forall_const, true_and, and_true, ne_eq, not_true_eq_false, not_false_eq_true, false_implies, true_implies, implies_true, eq_self, reduceCtorEq, Nat.reduceDiv, Nat.reduceMod, Int.reduceToNat, or_true, true_or, or_false, false_or, or_self, m_it, m_if, m_c1, m_01, m_02, m_03, m_04, m_10, m_12, m_13, m_14, m_20, m_21, m_23, m_24, m_30, m_31, m_32, m_34, m_40, m_41, m_42, m_43, Int.reduceLE, Int.reduceLT, Int.reduceGE, Int.reduceGT, Int.reduceNeg, Int.reduceAdd, Int.reduceSub, Int.reduceMul, Int.reduceEq, Int.reduceNe, Nat.reduceAdd, jun2, ro_0_0, ro_0_1, ro_0_2, ro_0_3, ro_0_4, ro_0_5, ro_0_6, ro_0_7, ro_0_8, ro_0_9, ro_0_10, ro_0_11, ro_0_12, ro_1_0, ro_1_1, ro_2_0, ro_4_0, ro_6_0, ro_6_1, ro_6_2, ro_6_3, ro_6_4, ro_6_5, ro_6_6, ro_6_7, ro_6_8, ro_8_0, ro_10_0, ro_12_0, ro_14_0, ro_16_0, ro_18_0, ro_20_0, ro_22_0, ro_22_1, ro_22_2, ro_23_0, ro_25_0, ro_27_0, ro_29_0, ro_29_1, ro_29_2, ro_29_3, ro_29_4, ro_29_5, ro_29_6, ro_29_7, ro_29_8, ro_31_0, ro_33_0, ro_35_0, ro_37_0, ro_39_0, ro_41_0, ro_43_0, ro_45_0, ro_45_1, ro_45_2, ro_46_0, ro_48_0, ro_50_0, ro_52_0, ro_52_1, ro_52_2, ro_52_3, ro_53_0, ro_55_0, ro_57_0, ro_59_0, ro_61_0, ro_61_1, ro_61_2, ro_61_3, ro_62_0, ro_64_0, ro_66_0, ro_68_0, ro_70_0, ro_70_1, ro_70_2, ro_70_3, ro_70_4, ro_70_5, ro_70_6, ro_70_7, ro_70_8, ro_70_9, ro_71_0, ro_73_0, ro_75_0, ro_77_0, ro_79_0, ro_81_0, ro_83_0, ro_85_0, ro_87_0, ro_89_0, ro_91_0, ro_91_1, ro_91_2, ro_91_3, ro_91_4, ro_91_5, ro_91_6, ro_91_7, ro_91_8, ro_91_9, ro_92_0, ro_94_0, ro_96_0, ro_98_0, ro_100_0, ro_102_0, ro_104_0, ro_106_0, ro_108_0, ro_110_0, ro_112_0, ro_112_1, ro_112_2, ro_112_3, ro_112_4, ro_112_5, ro_112_6, ro_112_7, ro_112_8, ro_112_9, ro_113_0, ro_115_0, ro_117_0, ro_119_0, ro_121_0, ro_123_0, ro_125_0, ro_127_0, ro_129_0, ro_131_0, ro_133_0, ro_133_1, ro_133_2, ro_133_3, ro_133_4, ro_133_5, ro_133_6, ro_133_7, ro_133_8, ro_133_9, ro_134_0, ro_136_0, ro_138_0, ro_140_0, ro_142_0, ro_144_0, ro_146_0, ro_148_0, ro_150_0, ro_152_0, ro_154_0, ro_155_0, ro_157_0, ro_157_1, ro_157_2, ro_157_3, ro_157_4, ro_157_5, ro_157_6, ro_157_7, ro_157_8, ro_157_9, ro_158_0, ro_160_0, ro_162_0, ro_164_0, ro_166_0, ro_168_0, ro_170_0, ro_172_0, ro_174_0, ro_176_0, ro_178_0, ro_180_0, ro_182_1, ro_182_4, ro_182_5, ro_182_6, ro_182_9, ro_182_10, ro_182_11, ro_182_13, ro_182_14, ro_182_15, ro_182_16, ro_182_17, ro_182_20, ro_182_21, ro_182_22, ro_182_23, ro_182_24, ro_182_26, ro_182_27, ro_182_28, lo_3, lo_5, lo_7, lo_9, lo_11, lo_13, lo_15, lo_17, lo_19, lo_21, lo_24, lo_26, lo_28, lo_30, lo_32, lo_34, lo_36, lo_38, lo_40, lo_42, lo_44, lo_47, lo_49, lo_51, lo_54, lo_56, lo_58, lo_60, lo_63, lo_65, lo_67, lo_69, lo_72, lo_74, lo_76, lo_78, lo_80, lo_82, lo_84, lo_86, lo_88, lo_90, lo_93, lo_95, lo_97, lo_99, lo_101, lo_103, lo_105, lo_107, lo_109, lo_111, lo_114, lo_116, lo_118, lo_120, lo_122, lo_124, lo_126, lo_128, lo_130, lo_132, lo_135, lo_137, lo_139, lo_141, lo_143, lo_145, lo_147, lo_149, lo_151, lo_153, lo_156, lo_159, lo_161, lo_163, lo_165, lo_167, lo_169, lo_171, lo_173, lo_175, lo_177, lo_179, lo_181, lo_183, lo_184, lo_185, lo_186, lo_187, lo_188, lo_189, lo_190, lo_191, lo_192, lo_193, lo_194, lo_195, lo_196, lo_197, lo_198, lo_199, lo_200, lo_201, lo_202, lo_203]
    repeat' (first | exact hQ | (refine ⟨?_, ?_⟩) | (intro _))
    all_goals first | exact hQ | (rw [jp_t (by omega)] at hQ; exact hQ) | (rw [jp_f (by omega)] at hQ; exact hQ)
  · exact hQ.elim
theorem m_186 : BodyOK CS1 CS1 186 := fun av h Q hQ => by
  rw [cs1_186] at hQ
  unfold k186 at hQ
  split at hQ
  · rename_i c
    show pS CS1 bb_186 [c] h _
    unfold bb_186
    simp only [qe_1, qe_3, qe_4, qe_5, qe_7, qe_72, qe_10, qe_102, qe_13, qe_14, qe_15, qe_16, qe_17, qe_18, qe_20, qe_22, qe_23, qe_21, qe_24, qe_25, qe_26, qe_27, qe_28, qe_30, qe_31, qe_32, qc_20, qc_22, qc_23, qc_21, qc_24, qc_25, qc_26, qc_27, qc_1, qc_3, qc_4, qc_7, qc_13, qc_28, qc_32, qs_1, qs_2, qs_3, qs_4, qs_5, qs_6, qs_9, qs_10, qs_11, qs_14, qs_15, qs_16, qs_27, qs_17, qs_18, qs_19, qs_20, qs_22, qs_23, qs_28, qs_25, qs_26, qs_7, qs_8, kc_1, kn_1, kc_2, kn_2, kc_3, kn_3, kc_4, kn_4, kc_5, kn_5, kc_6, kn_6, kc_7, kn_7, kc_8, kn_8, kc_9, kn_9, kc_10, kn_10, kc_11, kn_11, kc_12, kn_12, kc_13, kn_13, kc_14, kn_14, kc_15, kn_15, kc_16, kc_17, kc_18, kc_19, kc_20, kc_21, kc_22, kc_23, kc_30, kc_32, kc_40, kc_43, kc_45, kc_48, kc_52, kc_56, kc_57, kc_59, kc_60, kc_61, kc_63, kc_64, kc_72, kc_78, kc_97, kc_99, kc_122, kc_126, kc_128, kc_192, kc_200, kc_255, kc_999, kc_1000, kc_9999, kn_9999, kc_10000, kc_12345, kc_65536, kc_252645135, kc_858993459, kc_1103515245, kc_1431655765, kc_2147483647, kc_0, kc_24, kc_28, kc_37, kc_41, kc_42, kc_73, kc_91, kc_95, kc_96, kc_98, kc_100, kc_112, kc_125, kc_150, kc_162, kc_163, kc_168, kc_186, kc_190, kc_250, kc_355, kc_356, kc_404, kc_405, kc_429, kc_573, kc_1002, kc_1100, kc_1891, kc_2200, kc_4719, kc_4869, kc_4881, kc_5148, kc_19741, kc_25433, kc_320403, kc_628412, kc_629093, kc_660401, kc_679843, kc_918640, kc_979410, kc_1178088, kc_6232410, kc_24644941, kc_36238189, kc_38270444, kc_392531318, kc_425693491, kc_1342154595, kc_2147483648, kc_42328242873, kc_891704255789, kc_1722105685577, kc_1858726030364, ct_0, ct_1, ct_2, ct_3, ct_4, ct_5, cf_0, cf_1, cf_2, cf_3, cf_4, cf_5, w_ty6, w_ty7, m_sv, m_z0, m_hd, m_g0, m_gs, m_s0, m_ss, m_ap, m_an, forall_const, true_and, and_true, ne_eq, not_true_eq_false, not_false_eq_true, false_implies, true_implies, implies_true, eq_self, reduceCtorEq, Nat.reduceDiv, Nat.reduceMod, Int.reduceToNat, or_true, true_or, or_false, false_or, or_self, m_it, m_if, m_c1, m_01, m_02, m_03, m_04, m_10, m_12, m_13, m_14, m_20, m_21, m_23, m_24, m_30, m_31, m_32, m_34, m_40, m_41, m_42, m_43, Int.reduceLE, Int.reduceLT, Int.reduceGE, Int.reduceGT, Int.reduceNeg, Int.reduceAdd, Int.reduceSub, Int.reduceMul, Int.reduceEq, Int.reduceNe, Nat.reduceAdd, jun2, ro_0_0, ro_0_1, ro_0_2, ro_0_3, ro_0_4, ro_0_5, ro_0_6, ro_0_7, ro_0_8, ro_0_9, ro_0_10, ro_0_11, ro_0_12, ro_1_0, ro_1_1, ro_2_0, ro_4_0, ro_6_0, ro_6_1, ro_6_2, ro_6_3, ro_6_4, ro_6_5, ro_6_6, ro_6_7, ro_6_8, ro_8_0, ro_10_0, ro_12_0, ro_14_0, ro_16_0, ro_18_0, ro_20_0, ro_22_0, ro_22_1, ro_22_2, ro_23_0, ro_25_0, ro_27_0, ro_29_0, ro_29_1, ro_29_2, ro_29_3, ro_29_4, ro_29_5, ro_29_6, ro_29_7, ro_29_8, ro_31_0, ro_33_0, ro_35_0, ro_37_0, ro_39_0, ro_41_0, ro_43_0, ro_45_0, ro_45_1, ro_45_2, ro_46_0, ro_48_0, ro_50_0, ro_52_0, ro_52_1, ro_52_2, ro_52_3, ro_53_0, ro_55_0, ro_57_0, ro_59_0, ro_61_0, ro_61_1, ro_61_2, ro_61_3, ro_62_0, ro_64_0, ro_66_0, ro_68_0, ro_70_0, ro_70_1, ro_70_2, ro_70_3, ro_70_4, ro_70_5, ro_70_6, ro_70_7, ro_70_8, ro_70_9, ro_71_0, ro_73_0, ro_75_0, ro_77_0, ro_79_0, ro_81_0, ro_83_0, ro_85_0, ro_87_0, ro_89_0, ro_91_0, ro_91_1, ro_91_2, ro_91_3, ro_91_4, ro_91_5, ro_91_6, ro_91_7, ro_91_8, ro_91_9, ro_92_0, ro_94_0, ro_96_0, ro_98_0, ro_100_0, ro_102_0, ro_104_0, ro_106_0, ro_108_0, ro_110_0, ro_112_0, ro_112_1, ro_112_2, ro_112_3, ro_112_4, ro_112_5, ro_112_6, ro_112_7, ro_112_8, ro_112_9, ro_113_0, ro_115_0, ro_117_0, ro_119_0, ro_121_0, ro_123_0, ro_125_0, ro_127_0, ro_129_0, ro_131_0, ro_133_0, ro_133_1, ro_133_2, ro_133_3, ro_133_4, ro_133_5, ro_133_6, ro_133_7, ro_133_8, ro_133_9, ro_134_0, ro_136_0, ro_138_0, ro_140_0, ro_142_0, ro_144_0, ro_146_0, ro_148_0, ro_150_0, ro_152_0, ro_154_0, ro_155_0, ro_157_0, ro_157_1, ro_157_2, ro_157_3, ro_157_4, ro_157_5, ro_157_6, ro_157_7, ro_157_8, ro_157_9, ro_158_0, ro_160_0, ro_162_0, ro_164_0, ro_166_0, ro_168_0, ro_170_0, ro_172_0, ro_174_0, ro_176_0, ro_178_0, ro_180_0, ro_182_1, ro_182_4, ro_182_5, ro_182_6, ro_182_9, ro_182_10, ro_182_11, ro_182_13, ro_182_14, ro_182_15, ro_182_16, ro_182_17, ro_182_20, ro_182_21, ro_182_22, ro_182_23, ro_182_24, ro_182_26, ro_182_27, ro_182_28, lo_3, lo_5, lo_7, lo_9, lo_11, lo_13, lo_15, lo_17, lo_19, lo_21, lo_24, lo_26, lo_28, lo_30, lo_32, lo_34, lo_36, lo_38, lo_40, lo_42, lo_44, lo_47, lo_49, lo_51, lo_54, lo_56, lo_58, lo_60, lo_63, lo_65, lo_67, lo_69, lo_72, lo_74, lo_76, lo_78, lo_80, lo_82, lo_84, lo_86, lo_88, lo_90, lo_93, lo_95, lo_97, lo_99, lo_101, lo_103, lo_105, lo_107, lo_109, lo_111, lo_114, lo_116, lo_118, lo_120, lo_122, lo_124, lo_126, lo_128, lo_130, lo_132, lo_135, lo_137, lo_139, lo_141, lo_143, lo_145, lo_147, lo_149, lo_151, lo_153, lo_156, lo_159, lo_161, lo_163, lo_165, lo_167, lo_169, lo_171, lo_173, lo_175, lo_177, lo_179, lo_181, lo_183, lo_184, lo_185, lo_186, lo_187, lo_188, lo_189, lo_190, lo_191, lo_192, lo_193, lo_194, lo_195, lo_196, lo_197, lo_198, lo_199, lo_200, lo_201, lo_202, lo_203]
    repeat' (first | exact hQ | (refine ⟨?_, ?_⟩) | (intro _))
    all_goals first | exact hQ | (rw [jp_t (by omega)] at hQ; exact hQ) | (rw [jp_f (by omega)] at hQ; exact hQ)
  · exact hQ.elim
theorem m_187 : BodyOK CS1 CS1 187 := fun av h Q hQ => by
  rw [cs1_187] at hQ
  unfold k187 at hQ
  split at hQ
  · rename_i c
    show pS CS1 bb_187 [c] h _
    unfold bb_187
    simp only [qe_1, qe_3, qe_4, qe_5, qe_7, qe_72, qe_10, qe_102, qe_13, qe_14, qe_15, qe_16, qe_17, qe_18, qe_20, qe_22, qe_23, qe_21, qe_24, qe_25, qe_26, qe_27, qe_28, qe_30, qe_31, qe_32, qc_20, qc_22, qc_23, qc_21, qc_24, qc_25, qc_26, qc_27, qc_1, qc_3, qc_4, qc_7, qc_13, qc_28, qc_32, qs_1, qs_2, qs_3, qs_4, qs_5, qs_6, qs_9, qs_10, qs_11, qs_14, qs_15, qs_16, qs_27, qs_17, qs_18, qs_19, qs_20, qs_22, qs_23, qs_28, qs_25, qs_26, qs_7, qs_8, kc_1, kn_1, kc_2, kn_2, kc_3, kn_3, kc_4, kn_4, kc_5, kn_5, kc_6, kn_6, kc_7, kn_7, kc_8, kn_8, kc_9, kn_9, kc_10, kn_10, kc_11, kn_11, kc_12, kn_12, kc_13, kn_13, kc_14, kn_14, kc_15, kn_15, kc_16, kc_17, kc_18, kc_19, kc_20, kc_21, kc_22, kc_23, kc_30, kc_32, kc_40, kc_43, kc_45, kc_48, kc_52, kc_56, kc_57, kc_59, kc_60, kc_61, kc_63, kc_64, kc_72, kc_78, kc_97, kc_99, kc_122, kc_126, kc_128, kc_192, kc_200, kc_255, kc_999, kc_1000, kc_9999, kn_9999, kc_10000, kc_12345, kc_65536, kc_252645135, kc_858993459, kc_1103515245, kc_1431655765, kc_2147483647, kc_0, kc_24, kc_28, kc_37, kc_41, kc_42, kc_73, kc_91, kc_95, kc_96, kc_98, kc_100, kc_112, kc_125, kc_150, kc_162, kc_163, kc_168, kc_186, kc_190, kc_250, kc_355, kc_356, kc_404, kc_405, kc_429, kc_573, kc_1002, kc_1100, kc_1891, kc_2200, kc_4719, kc_4869, kc_4881, kc_5148, kc_19741, kc_25433, kc_320403, kc_628412, kc_629093, kc_660401, kc_679843, kc_918640, kc_979410, kc_1178088, kc_6232410, kc_24644941, kc_36238189, kc_38270444, kc_392531318, kc_425693491, kc_1342154595, kc_2147483648, kc_42328242873, kc_891704255789, kc_1722105685577, kc_1858726030364, ct_0, ct_1, ct_2, ct_3, ct_4, ct_5, cf_0, cf_1, cf_2, cf_3, cf_4, cf_5, w_ty6, w_ty7, m_sv, m_z0, m_hd, m_g0, m_gs, m_s0, m_ss, m_ap, m_an, forall_const, true_and, and_true, ne_eq, not_true_eq_false, not_false_eq_true, false_implies, true_implies, implies_true, eq_self, reduceCtorEq, Nat.reduceDiv, Nat.reduceMod, Int.reduceToNat, or_true, true_or, or_false, false_or, or_self, m_it, m_if, m_c1, m_01, m_02, m_03, m_04, m_10, m_12, m_13, m_14, m_20, m_21, m_23, m_24, m_30, m_31, m_32, m_34, m_40, m_41, m_42, m_43, Int.reduceLE, Int.reduceLT, Int.reduceGE, Int.reduceGT, Int.reduceNeg, Int.reduceAdd, Int.reduceSub, Int.reduceMul, Int.reduceEq, Int.reduceNe, Nat.reduceAdd, jun2, ro_0_0, ro_0_1, ro_0_2, ro_0_3, ro_0_4, ro_0_5, ro_0_6, ro_0_7, ro_0_8, ro_0_9, ro_0_10, ro_0_11, ro_0_12, ro_1_0, ro_1_1, ro_2_0, ro_4_0, ro_6_0, ro_6_1, ro_6_2, ro_6_3, ro_6_4, ro_6_5, ro_6_6, ro_6_7, ro_6_8, ro_8_0, ro_10_0, ro_12_0, ro_14_0, ro_16_0, ro_18_0, ro_20_0, ro_22_0, ro_22_1, ro_22_2, ro_23_0, ro_25_0, ro_27_0, ro_29_0, ro_29_1, ro_29_2, ro_29_3, ro_29_4, ro_29_5, ro_29_6, ro_29_7, ro_29_8, ro_31_0, ro_33_0, ro_35_0, ro_37_0, ro_39_0, ro_41_0, ro_43_0, ro_45_0, ro_45_1, ro_45_2, ro_46_0, ro_48_0, ro_50_0, ro_52_0, ro_52_1, ro_52_2, ro_52_3, ro_53_0, ro_55_0, ro_57_0, ro_59_0, ro_61_0, ro_61_1, ro_61_2, ro_61_3, ro_62_0, ro_64_0, ro_66_0, ro_68_0, ro_70_0, ro_70_1, ro_70_2, ro_70_3, ro_70_4, ro_70_5, ro_70_6, ro_70_7, ro_70_8, ro_70_9, ro_71_0, ro_73_0, ro_75_0, ro_77_0, ro_79_0, ro_81_0, ro_83_0, ro_85_0, ro_87_0, ro_89_0, ro_91_0, ro_91_1, ro_91_2, ro_91_3, ro_91_4, ro_91_5, ro_91_6, ro_91_7, ro_91_8, ro_91_9, ro_92_0, ro_94_0, ro_96_0, ro_98_0, ro_100_0, ro_102_0, ro_104_0, ro_106_0, ro_108_0, ro_110_0, ro_112_0, ro_112_1, ro_112_2, ro_112_3, ro_112_4, ro_112_5, ro_112_6, ro_112_7, ro_112_8, ro_112_9, ro_113_0, ro_115_0, ro_117_0, ro_119_0, ro_121_0, ro_123_0, ro_125_0, ro_127_0, ro_129_0, ro_131_0, ro_133_0, ro_133_1, ro_133_2, ro_133_3, ro_133_4, ro_133_5, ro_133_6, ro_133_7, ro_133_8, ro_133_9, ro_134_0, ro_136_0, ro_138_0, ro_140_0, ro_142_0, ro_144_0, ro_146_0, ro_148_0, ro_150_0, ro_152_0, ro_154_0, ro_155_0, ro_157_0, ro_157_1, ro_157_2, ro_157_3, ro_157_4, ro_157_5, ro_157_6, ro_157_7, ro_157_8, ro_157_9, ro_158_0, ro_160_0, ro_162_0, ro_164_0, ro_166_0, ro_168_0, ro_170_0, ro_172_0, ro_174_0, ro_176_0, ro_178_0, ro_180_0, ro_182_1, ro_182_4, ro_182_5, ro_182_6, ro_182_9, ro_182_10, ro_182_11, ro_182_13, ro_182_14, ro_182_15, ro_182_16, ro_182_17, ro_182_20, ro_182_21, ro_182_22, ro_182_23, ro_182_24, ro_182_26, ro_182_27, ro_182_28, lo_3, lo_5, lo_7, lo_9, lo_11, lo_13, lo_15, lo_17, lo_19, lo_21, lo_24, lo_26, lo_28, lo_30, lo_32, lo_34, lo_36, lo_38, lo_40, lo_42, lo_44, lo_47, lo_49, lo_51, lo_54, lo_56, lo_58, lo_60, lo_63, lo_65, lo_67, lo_69, lo_72, lo_74, lo_76, lo_78, lo_80, lo_82, lo_84, lo_86, lo_88, lo_90, lo_93, lo_95, lo_97, lo_99, lo_101, lo_103, lo_105, lo_107, lo_109, lo_111, lo_114, lo_116, lo_118, lo_120, lo_122, lo_124, lo_126, lo_128, lo_130, lo_132, lo_135, lo_137, lo_139, lo_141, lo_143, lo_145, lo_147, lo_149, lo_151, lo_153, lo_156, lo_159, lo_161, lo_163, lo_165, lo_167, lo_169, lo_171, lo_173, lo_175, lo_177, lo_179, lo_181, lo_183, lo_184, lo_185, lo_186, lo_187, lo_188, lo_189, lo_190, lo_191, lo_192, lo_193, lo_194, lo_195, lo_196, lo_197, lo_198, lo_199, lo_200, lo_201, lo_202, lo_203]
    repeat' (first | exact hQ | (refine ⟨?_, ?_⟩) | (intro _))
    all_goals first | exact hQ | (rw [jp_t (by omega)] at hQ; exact hQ) | (rw [jp_f (by omega)] at hQ; exact hQ)
  · exact hQ.elim
theorem m_189 : BodyOK CS1 CS1 189 := fun av h Q hQ => by
  rw [cs1_189] at hQ
  unfold k189 at hQ
  split at hQ
  · rename_i c
    show pS CS1 bb_189 [c] h _
    unfold bb_189
    simp only [qe_1, qe_3, qe_4, qe_5, qe_7, qe_72, qe_10, qe_102, qe_13, qe_14, qe_15, qe_16, qe_17, qe_18, qe_20, qe_22, qe_23, qe_21, qe_24, qe_25, qe_26, qe_27, qe_28, qe_30, qe_31, qe_32, qc_20, qc_22, qc_23, qc_21, qc_24, qc_25, qc_26, qc_27, qc_1, qc_3, qc_4, qc_7, qc_13, qc_28, qc_32, qs_1, qs_2, qs_3, qs_4, qs_5, qs_6, qs_9, qs_10, qs_11, qs_14, qs_15, qs_16, qs_27, qs_17, qs_18, qs_19, qs_20, qs_22, qs_23, qs_28, qs_25, qs_26, qs_7, qs_8, kc_1, kn_1, kc_2, kn_2, kc_3, kn_3, kc_4, kn_4, kc_5, kn_5, kc_6, kn_6, kc_7, kn_7, kc_8, kn_8, kc_9, kn_9, kc_10, kn_10, kc_11, kn_11, kc_12, kn_12, kc_13, kn_13, kc_14, kn_14, kc_15, kn_15, kc_16, kc_17, kc_18, kc_19, kc_20, kc_21, kc_22, kc_23, kc_30, kc_32, kc_40, kc_43, kc_45, kc_48, kc_52, kc_56, kc_57, kc_59, kc_60, kc_61, kc_63, kc_64, kc_72, kc_78, kc_97, kc_99, kc_122, kc_126, kc_128, kc_192, kc_200, kc_255, kc_999, kc_1000, kc_9999, kn_9999, kc_10000, kc_12345, kc_65536, kc_252645135, kc_858993459, kc_1103515245, kc_1431655765, kc_2147483647, kc_0, kc_24, kc_28, kc_37, kc_41, kc_42, kc_73, kc_91, kc_95, kc_96, kc_98, kc_100, kc_112, kc_125, kc_150, kc_162, kc_163, kc_168, kc_186, kc_190, kc_250, kc_355, kc_356, kc_404, kc_405, kc_429, kc_573, kc_1002, kc_1100, kc_1891, kc_2200, kc_4719, kc_4869, kc_4881, kc_5148, kc_19741, kc_25433, kc_320403, kc_628412, kc_629093, kc_660401, kc_679843, kc_918640, kc_979410, kc_1178088, kc_6232410, kc_24644941, kc_36238189, kc_38270444, kc_392531318, kc_425693491, kc_1342154595, kc_2147483648, kc_42328242873, kc_891704255789, kc_1722105685577, kc_1858726030364, ct_0, ct_1, ct_2, ct_3, ct_4, ct_5, cf_0, cf_1, cf_2, cf_3, cf_4, cf_5, w_ty6, w_ty7, m_sv, m_z0, m_hd, m_g0, m_gs, m_s0, m_ss, m_ap, m_an, forall_const, true_and, and_true, ne_eq, not_true_eq_false, not_false_eq_true, false_implies, true_implies, implies_true, eq_self, reduceCtorEq, Nat.reduceDiv, Nat.reduceMod, Int.reduceToNat, or_true, true_or, or_false, false_or, or_self, m_it, m_if, m_c1, m_01, m_02, m_03, m_04, m_10, m_12, m_13, m_14, m_20, m_21, m_23, m_24, m_30, m_31, m_32, m_34, m_40, m_41, m_42, m_43, Int.reduceLE, Int.reduceLT, Int.reduceGE, Int.reduceGT, Int.reduceNeg, Int.reduceAdd, Int.reduceSub, Int.reduceMul, Int.reduceEq, Int.reduceNe, Nat.reduceAdd, jun2, ro_0_0, ro_0_1, ro_0_2, ro_0_3, ro_0_4, ro_0_5, ro_0_6, ro_0_7, ro_0_8, ro_0_9, ro_0_10, ro_0_11, ro_0_12, ro_1_0, ro_1_1, ro_2_0, ro_4_0, ro_6_0, ro_6_1, ro_6_2, ro_6_3, ro_6_4, ro_6_5, ro_6_6, ro_6_7, ro_6_8, ro_8_0, ro_10_0, ro_12_0, ro_14_0, ro_16_0, ro_18_0, ro_20_0, ro_22_0, ro_22_1, ro_22_2, ro_23_0, ro_25_0, ro_27_0, ro_29_0, ro_29_1, ro_29_2, ro_29_3, ro_29_4, ro_29_5, ro_29_6, ro_29_7, ro_29_8, ro_31_0, ro_33_0, ro_35_0, ro_37_0, ro_39_0, ro_41_0, ro_43_0, ro_45_0, ro_45_1, ro_45_2, ro_46_0, ro_48_0, ro_50_0, ro_52_0, ro_52_1, ro_52_2, ro_52_3, ro_53_0, ro_55_0, ro_57_0, ro_59_0, ro_61_0, ro_61_1, ro_61_2, ro_61_3, ro_62_0, ro_64_0, ro_66_0, ro_68_0, ro_70_0, ro_70_1, ro_70_2, ro_70_3, ro_70_4, ro_70_5, ro_70_6, ro_70_7, ro_70_8, ro_70_9, ro_71_0, ro_73_0, ro_75_0, ro_77_0, ro_79_0, ro_81_0, ro_83_0, ro_85_0, ro_87_0, ro_89_0, ro_91_0, ro_91_1, ro_91_2, ro_91_3, ro_91_4, ro_91_5, ro_91_6, ro_91_7, ro_91_8, ro_91_9, ro_92_0, ro_94_0, ro_96_0, ro_98_0, ro_100_0, ro_102_0, ro_104_0, ro_106_0, ro_108_0, ro_110_0, ro_112_0, ro_112_1, ro_112_2, ro_112_3, ro_112_4, ro_112_5, ro_112_6, ro_112_7, ro_112_8, ro_112_9, ro_113_0, ro_115_0, ro_117_0, ro_119_0, ro_121_0, ro_123_0, ro_125_0, ro_127_0, ro_129_0, ro_131_0, ro_133_0, ro_133_1, ro_133_2, ro_133_3, ro_133_4, ro_133_5, ro_133_6, ro_133_7, ro_133_8, ro_133_9, ro_134_0, ro_136_0, ro_138_0, ro_140_0, ro_142_0, ro_144_0, ro_146_0, ro_148_0, ro_150_0, ro_152_0, ro_154_0, ro_155_0, ro_157_0, ro_157_1, ro_157_2, ro_157_3, ro_157_4, ro_157_5, ro_157_6, ro_157_7, ro_157_8, ro_157_9, ro_158_0, ro_160_0, ro_162_0, ro_164_0, ro_166_0, ro_168_0, ro_170_0, ro_172_0, ro_174_0, ro_176_0, ro_178_0, ro_180_0, ro_182_1, ro_182_4, ro_182_5, ro_182_6, ro_182_9, ro_182_10, ro_182_11, ro_182_13, ro_182_14, ro_182_15, ro_182_16, ro_182_17, ro_182_20, ro_182_21, ro_182_22, ro_182_23, ro_182_24, ro_182_26, ro_182_27, ro_182_28, lo_3, lo_5, lo_7, lo_9, lo_11, lo_13, lo_15, lo_17, lo_19, lo_21, lo_24, lo_26, lo_28, lo_30, lo_32, lo_34, lo_36, lo_38, lo_40, lo_42, lo_44, lo_47, lo_49, lo_51, lo_54, lo_56, lo_58, lo_60, lo_63, lo_65, lo_67, lo_69, lo_72, lo_74, lo_76, lo_78, lo_80, lo_82, lo_84, lo_86, lo_88, lo_90, lo_93, lo_95, lo_97, lo_99, lo_101, lo_103, lo_105, lo_107, lo_109, lo_111, lo_114, lo_116, lo_118, lo_120, lo_122, lo_124, lo_126, lo_128, lo_130, lo_132, lo_135, lo_137, lo_139, lo_141, lo_143, lo_145, lo_147, lo_149, lo_151, lo_153, lo_156, lo_159, lo_161, lo_163, lo_165, lo_167, lo_169, lo_171, lo_173, lo_175, lo_177, lo_179, lo_181, lo_183, lo_184, lo_185, lo_186, lo_187, lo_188, lo_189, lo_190, lo_191, lo_192, lo_193, lo_194, lo_195, lo_196, lo_197, lo_198, lo_199, lo_200, lo_201, lo_202, lo_203]
    repeat' (first | exact hQ | (refine ⟨?_, ?_⟩) | (intro _))
    all_goals first | exact hQ | (rw [jp_t (by omega)] at hQ; exact hQ) | (rw [jp_f (by omega)] at hQ; exact hQ)
  · exact hQ.elim
theorem m_72 : BodyOK CS1 CS1 72 := fun av h Q hQ => by
  rw [cs1_72] at hQ
  unfold k72 at hQ
  split at hQ
  · rename_i o
    show pS CS1 bb_72 [o] h _
    unfold bb_72
    simp only [qe_1, qe_3, qe_4, qe_5, qe_7, qe_72, qe_10, qe_102, qe_13, qe_14, qe_15, qe_16, qe_17, qe_18, qe_20, qe_22, qe_23, qe_21, qe_24, qe_25, qe_26, qe_27, qe_28, qe_30, qe_31, qe_32, qc_20, qc_22, qc_23, qc_21, qc_24, qc_25, qc_26, qc_27, qc_1, qc_3, qc_4, qc_7, qc_13, qc_28, qc_32, qs_1, qs_2, qs_3, qs_4, qs_5, qs_6, qs_9, qs_10, qs_11, qs_14, qs_15, qs_16, qs_27, qs_17, qs_18, qs_19, qs_20, qs_22, qs_23, qs_28, qs_25, qs_26, qs_7, qs_8, kc_1, kn_1, kc_2, kn_2, kc_3, kn_3, kc_4, kn_4, kc_5, kn_5, kc_6, kn_6, kc_7, kn_7, kc_8, kn_8, kc_9, kn_9, kc_10, kn_10, kc_11, kn_11, kc_12, kn_12, kc_13, kn_13, kc_14, kn_14, kc_15, kn_15, kc_16, kc_17, kc_18, kc_19, kc_20, kc_21, kc_22, kc_23, kc_30, kc_32, kc_40, kc_43, kc_45, kc_48, kc_52, kc_56, kc_57, kc_59, kc_60, kc_61, kc_63, kc_64, kc_72, kc_78, kc_97, kc_99, kc_122, kc_126, kc_128, kc_192, kc_200, kc_255, kc_999, kc_1000, kc_9999, kn_9999, kc_10000, kc_12345, kc_65536, kc_252645135, kc_858993459, kc_1103515245, kc_1431655765, kc_2147483647, kc_0, kc_24, kc_28, kc_37, kc_41, kc_42, kc_73, kc_91, kc_95, kc_96, kc_98, kc_100, kc_112, kc_125, kc_150, kc_162, kc_163, kc_168, kc_186, kc_190, kc_250, kc_355, kc_356, kc_404, kc_405, kc_429, kc_573, kc_1002, kc_1100, kc_1891, kc_2200, kc_4719, kc_4869, kc_4881, kc_5148, kc_19741, kc_25433, kc_320403, kc_628412, kc_629093, kc_660401, kc_679843, kc_918640, kc_979410, kc_1178088, kc_6232410, kc_24644941, kc_36238189, kc_38270444, kc_392531318, kc_425693491, kc_1342154595, kc_2147483648, kc_42328242873, kc_891704255789, kc_1722105685577, kc_1858726030364, ct_0, ct_1, ct_2, ct_3, ct_4, ct_5, cf_0, cf_1, cf_2, cf_3, cf_4, cf_5, w_ty6, w_ty7, m_sv, m_z0, m_hd, m_g0, m_gs, m_s0, m_ss, m_ap, m_an, forall_const, true_and, and_true, ne_eq, not_true_eq_false, not_false_eq_true, false_implies, true_implies, implies_true, eq_self, reduceCtorEq, Nat.reduceDiv, Nat.reduceMod, Int.reduceToNat, or_true, true_or, or_false, false_or, or_self, m_it, m_if, m_c1, m_01, m_02, m_03, m_04, m_10, m_12, m_13, m_14, m_20, m_21, m_23, m_24, m_30, m_31, m_32, m_34, m_40, m_41, m_42, m_43, Int.reduceLE, Int.reduceLT, Int.reduceGE, Int.reduceGT, Int.reduceNeg, Int.reduceAdd, Int.reduceSub, Int.reduceMul, Int.reduceEq, Int.reduceNe, Nat.reduceAdd, jun2, ro_0_0, ro_0_1, ro_0_2, ro_0_3, ro_0_4, ro_0_5, ro_0_6, ro_0_7, ro_0_8, ro_0_9, ro_0_10, ro_0_11, ro_0_12, ro_1_0, ro_1_1, ro_2_0, ro_4_0, ro_6_0, ro_6_1, ro_6_2, ro_6_3, ro_6_4, ro_6_5, ro_6_6, ro_6_7, ro_6_8, ro_8_0, ro_10_0, ro_12_0, ro_14_0, ro_16_0, ro_18_0, ro_20_0, ro_22_0, ro_22_1, ro_22_2, ro_23_0, ro_25_0, ro_27_0, ro_29_0, ro_29_1, ro_29_2, ro_29_3, ro_29_4, ro_29_5, ro_29_6, ro_29_7, ro_29_8, ro_31_0, ro_33_0, ro_35_0, ro_37_0, ro_39_0, ro_41_0, ro_43_0, ro_45_0, ro_45_1, ro_45_2, ro_46_0, ro_48_0, ro_50_0, ro_52_0, ro_52_1, ro_52_2, ro_52_3, ro_53_0, ro_55_0, ro_57_0, ro_59_0, ro_61_0, ro_61_1, ro_61_2, ro_61_3, ro_62_0, ro_64_0, ro_66_0, ro_68_0, ro_70_0, ro_70_1, ro_70_2, ro_70_3, ro_70_4, ro_70_5, ro_70_6, ro_70_7, ro_70_8, ro_70_9, ro_71_0, ro_73_0, ro_75_0, ro_77_0, ro_79_0, ro_81_0, ro_83_0, ro_85_0, ro_87_0, ro_89_0, ro_91_0, ro_91_1, ro_91_2, ro_91_3, ro_91_4, ro_91_5, ro_91_6, ro_91_7, ro_91_8, ro_91_9, ro_92_0, ro_94_0, ro_96_0, ro_98_0, ro_100_0, ro_102_0, ro_104_0, ro_106_0, ro_108_0, ro_110_0, ro_112_0, ro_112_1, ro_112_2, ro_112_3, ro_112_4, ro_112_5, ro_112_6, ro_112_7, ro_112_8, ro_112_9, ro_113_0, ro_115_0, ro_117_0, ro_119_0, ro_121_0, ro_123_0, ro_125_0, ro_127_0, ro_129_0, ro_131_0, ro_133_0, ro_133_1, ro_133_2, ro_133_3, ro_133_4, ro_133_5, ro_133_6, ro_133_7, ro_133_8, ro_133_9, ro_134_0, ro_136_0, ro_138_0, ro_140_0, ro_142_0, ro_144_0, ro_146_0, ro_148_0, ro_150_0, ro_152_0, ro_154_0, ro_155_0, ro_157_0, ro_157_1, ro_157_2, ro_157_3, ro_157_4, ro_157_5, ro_157_6, ro_157_7, ro_157_8, ro_157_9, ro_158_0, ro_160_0, ro_162_0, ro_164_0, ro_166_0, ro_168_0, ro_170_0, ro_172_0, ro_174_0, ro_176_0, ro_178_0, ro_180_0, ro_182_1, ro_182_4, ro_182_5, ro_182_6, ro_182_9, ro_182_10, ro_182_11, ro_182_13, ro_182_14, ro_182_15, ro_182_16, ro_182_17, ro_182_20, ro_182_21, ro_182_22, ro_182_23, ro_182_24, ro_182_26, ro_182_27, ro_182_28, lo_3, lo_5, lo_7, lo_9, lo_11, lo_13, lo_15, lo_17, lo_19, lo_21, lo_24, lo_26, lo_28, lo_30, lo_32, lo_34, lo_36, lo_38, lo_40, lo_42, lo_44, lo_47, lo_49, lo_51, lo_54, lo_56, lo_58, lo_60, lo_63, lo_65, lo_67, lo_69, lo_72, lo_74, lo_76, lo_78, lo_80, lo_82, lo_84, lo_86, lo_88, lo_90, lo_93, lo_95, lo_97, lo_99, lo_101, lo_103, lo_105, lo_107, lo_109, lo_111, lo_114, lo_116, lo_118, lo_120, lo_122, lo_124, lo_126, lo_128, lo_130, lo_132, lo_135, lo_137, lo_139, lo_141, lo_143, lo_145, lo_147, lo_149, lo_151, lo_153, lo_156, lo_159, lo_161, lo_163, lo_165, lo_167, lo_169, lo_171, lo_173, lo_175, lo_177, lo_179, lo_181, lo_183, lo_184, lo_185, lo_186, lo_187, lo_188, lo_189, lo_190, lo_191, lo_192, lo_193, lo_194, lo_195, lo_196, lo_197, lo_198, lo_199, lo_200, lo_201, lo_202, lo_203]
    repeat' (first | exact hQ | (refine ⟨?_, ?_⟩) | (intro _))
    all_goals first | exact hQ | (rw [jp_t (by omega)] at hQ; exact hQ) | (rw [jp_f (by omega)] at hQ; exact hQ)
  · exact hQ.elim
theorem m_73 : BodyOK CS1 CS1 73 := fun av h Q hQ => by
  rw [cs1_73] at hQ
  unfold k73 at hQ
  split at hQ
  · rename_i o
    show pS CS1 bb_73 [o] h _
    unfold bb_73
    simp only [qe_1, qe_3, qe_4, qe_5, qe_7, qe_72, qe_10, qe_102, qe_13, qe_14, qe_15, qe_16, qe_17, qe_18, qe_20, qe_22, qe_23, qe_21, qe_24, qe_25, qe_26, qe_27, qe_28, qe_30, qe_31, qe_32, qc_20, qc_22, qc_23, qc_21, qc_24, qc_25, qc_26, qc_27, qc_1, qc_3, qc_4, qc_7, qc_13, qc_28, qc_32, qs_1, qs_2, qs_3, qs_4, qs_5, qs_6, qs_9, qs_10, qs_11, qs_14, qs_15, qs_16, qs_27, qs_17, qs_18, qs_19, qs_20, qs_22, qs_23, qs_28, qs_25, qs_26, qs_7, qs_8, kc_1, kn_1, kc_2, kn_2, kc_3, kn_3, kc_4, kn_4, kc_5, kn_5, kc_6, kn_6, kc_7, kn_7, kc_8, kn_8, kc_9, kn_9, kc_10, kn_10, kc_11, kn_11, kc_12, kn_12, kc_13, kn_13, kc_14, kn_14, kc_15, kn_15, kc_16, kc_17, kc_18, kc_19, kc_20, kc_21, kc_22, kc_23, kc_30, kc_32, kc_40, kc_43, kc_45, kc_48, kc_52, kc_56, kc_57, kc_59, kc_60, kc_61, kc_63, kc_64, kc_72, kc_78, kc_97, kc_99, kc_122, kc_126, kc_128, kc_192, kc_200, kc_255, kc_999, kc_1000, kc_9999, kn_9999, kc_10000, kc_12345, kc_65536, kc_252645135, kc_858993459, kc_1103515245, kc_1431655765, kc_2147483647, kc_0, kc_24, kc_28, kc_37, kc_41, kc_42, kc_73, kc_91, kc_95, kc_96, kc_98, kc_100, kc_112, kc_125, kc_150, kc_162, kc_163, kc_168, kc_186, kc_190, kc_250, kc_355, kc_356, kc_404, kc_405, kc_429, kc_573, kc_1002, kc_1100, kc_1891, kc_2200, kc_4719, kc_4869, kc_4881, kc_5148, kc_19741, kc_25433, kc_320403, kc_628412, kc_629093, kc_660401, kc_679843, kc_918640, kc_979410, kc_1178088, kc_6232410, kc_24644941, kc_36238189, kc_38270444, kc_392531318, kc_425693491, kc_1342154595, kc_2147483648, kc_42328242873, kc_891704255789, kc_1722105685577, kc_1858726030364, ct_0, ct_1, ct_2, ct_3, ct_4, ct_5, cf_0, cf_1, cf_2, cf_3, cf_4, cf_5, w_ty6, w_ty7, m_sv, m_z0, m_hd, m_g0, m_gs, m_s0, m_ss, m_ap, m_an, forall_const, true_and, and_true, ne_eq, not_true_eq_false, not_false_eq_true, false_implies, true_implies, implies_true, eq_self, reduceCtorEq, Nat.reduceDiv, Nat.reduceMod, Int.reduceToNat, or_true, true_or, or_false, false_or, or_self, m_it, m_if, m_c1, m_01, m_02, m_03, m_04, m_10, m_12, m_13, m_14, m_20, m_21, m_23, m_24, m_30, m_31, m_32, m_34, m_40, m_41, m_42, m_43, Int.reduceLE, Int.reduceLT, Int.reduceGE, Int.reduceGT, Int.reduceNeg, Int.reduceAdd, Int.reduceSub, Int.reduceMul, Int.reduceEq, Int.reduceNe, Nat.reduceAdd, jun2, ro_0_0, ro_0_1, ro_0_2, ro_0_3, ro_0_4, ro_0_5, ro_0_6, ro_0_7, ro_0_8, ro_0_9, ro_0_10, ro_0_11, ro_0_12, ro_1_0, ro_1_1, ro_2_0, ro_4_0, ro_6_0, ro_6_1, ro_6_2, ro_6_3, ro_6_4, ro_6_5, ro_6_6, ro_6_7, ro_6_8, ro_8_0, ro_10_0, ro_12_0, ro_14_0, ro_16_0, ro_18_0, ro_20_0, ro_22_0, ro_22_1, ro_22_2, ro_23_0, ro_25_0, ro_27_0, ro_29_0, ro_29_1, ro_29_2, ro_29_3, ro_29_4, ro_29_5, ro_29_6, ro_29_7, ro_29_8, ro_31_0, ro_33_0, ro_35_0, ro_37_0, ro_39_0, ro_41_0, ro_43_0, ro_45_0, ro_45_1, ro_45_2, ro_46_0, ro_48_0, ro_50_0, ro_52_0, ro_52_1, ro_52_2, ro_52_3, ro_53_0, ro_55_0, ro_57_0, ro_59_0, ro_61_0, ro_61_1, ro_61_2, ro_61_3, ro_62_0, ro_64_0, ro_66_0, ro_68_0, ro_70_0, ro_70_1, ro_70_2, ro_70_3, ro_70_4, ro_70_5, ro_70_6, ro_70_7, ro_70_8, ro_70_9, ro_71_0, ro_73_0, ro_75_0, ro_77_0, ro_79_0, ro_81_0, ro_83_0, ro_85_0, ro_87_0, ro_89_0, ro_91_0, ro_91_1, ro_91_2, ro_91_3, ro_91_4, ro_91_5, ro_91_6, ro_91_7, ro_91_8, ro_91_9, ro_92_0, ro_94_0, ro_96_0, ro_98_0, ro_100_0, ro_102_0, ro_104_0, ro_106_0, ro_108_0, ro_110_0, ro_112_0, ro_112_1, ro_112_2, ro_112_3, ro_112_4, ro_112_5, ro_112_6, ro_112_7, ro_112_8, ro_112_9, ro_113_0, ro_115_0, ro_117_0, ro_119_0, ro_121_0, ro_123_0, ro_125_0, ro_127_0, ro_129_0, ro_131_0, ro_133_0, ro_133_1, ro_133_2, ro_133_3, ro_133_4, ro_133_5, ro_133_6, ro_133_7, ro_133_8, ro_133_9, ro_134_0, ro_136_0, ro_138_0, ro_140_0, ro_142_0, ro_144_0, ro_146_0, ro_148_0, ro_150_0, ro_152_0, ro_154_0, ro_155_0, ro_157_0, ro_157_1, ro_157_2, ro_157_3, ro_157_4, ro_157_5, ro_157_6, ro_157_7, ro_157_8, ro_157_9, ro_158_0, ro_160_0, ro_162_0, ro_164_0, ro_166_0, ro_168_0, ro_170_0, ro_172_0, ro_174_0, ro_176_0, ro_178_0, ro_180_0, ro_182_1, ro_182_4, ro_182_5, ro_182_6, ro_182_9, ro_182_10, ro_182_11, ro_182_13, ro_182_14, ro_182_15, ro_182_16, ro_182_17, ro_182_20, ro_182_21, ro_182_22, ro_182_23, ro_182_24, ro_182_26, ro_182_27, ro_182_28, lo_3, lo_5, lo_7, lo_9, lo_11, lo_13, lo_15, lo_17, lo_19, lo_21, lo_24, lo_26, lo_28, lo_30, lo_32, lo_34, lo_36, lo_38, lo_40, lo_42, lo_44, lo_47, lo_49, lo_51, lo_54, lo_56, lo_58, lo_60, lo_63, lo_65, lo_67, lo_69, lo_72, lo_74, lo_76, lo_78, lo_80, lo_82, lo_84, lo_86, lo_88, lo_90, lo_93, lo_95, lo_97, lo_99, lo_101, lo_103, lo_105, lo_107, lo_109, lo_111, lo_114, lo_116, lo_118, lo_120, lo_122, lo_124, lo_126, lo_128, lo_130, lo_132, lo_135, lo_137, lo_139, lo_141, lo_143, lo_145, lo_147, lo_149, lo_151, lo_153, lo_156, lo_159, lo_161, lo_163, lo_165, lo_167, lo_169, lo_171, lo_173, lo_175, lo_177, lo_179, lo_181, lo_183, lo_184, lo_185, lo_186, lo_187, lo_188, lo_189, lo_190, lo_191, lo_192, lo_193, lo_194, lo_195, lo_196, lo_197, lo_198, lo_199, lo_200, lo_201, lo_202, lo_203]
    repeat' (first | exact hQ | (refine ⟨?_, ?_⟩) | (intro _))
    all_goals first | exact hQ | (rw [jp_t (by omega)] at hQ; exact hQ) | (rw [jp_f (by omega)] at hQ; exact hQ)
  · exact hQ.elim
theorem m_74 : BodyOK CS1 CS1 74 := fun av h Q hQ => by
  rw [cs1_74] at hQ
  unfold k74 at hQ
  split at hQ
  · rename_i o c
    show pS CS1 bb_74 [o, c] h _
    unfold bb_74
    simp only [qe_1, qe_3, qe_4, qe_5, qe_7, qe_72, qe_10, qe_102, qe_13, qe_14, qe_15, qe_16, qe_17, qe_18, qe_20, qe_22, qe_23, qe_21, qe_24, qe_25, qe_26, qe_27, qe_28, qe_30, qe_31, qe_32, qc_20, qc_22, qc_23, qc_21, qc_24, qc_25, qc_26, qc_27, qc_1, qc_3, qc_4, qc_7, qc_13, qc_28, qc_32, qs_1, qs_2, qs_3, qs_4, qs_5, qs_6, qs_9, qs_10, qs_11, qs_14, qs_15, qs_16, qs_27, qs_17, qs_18, qs_19, qs_20, qs_22, qs_23, qs_28, qs_25, qs_26, qs_7, qs_8, kc_1, kn_1, kc_2, kn_2, kc_3, kn_3, kc_4, kn_4, kc_5, kn_5, kc_6, kn_6, kc_7, kn_7, kc_8, kn_8, kc_9, kn_9, kc_10, kn_10, kc_11, kn_11, kc_12, kn_12, kc_13, kn_13, kc_14, kn_14, kc_15, kn_15, kc_16, kc_17, kc_18, kc_19, kc_20, kc_21, kc_22, kc_23, kc_30, kc_32, kc_40, kc_43, kc_45, kc_48, kc_52, kc_56, kc_57, kc_59, kc_60, kc_61, kc_63, kc_64, kc_72, kc_78, kc_97, kc_99, kc_122, kc_126, kc_128, kc_192, kc_200, kc_255, kc_999, kc_1000, kc_9999, kn_9999, kc_10000, kc_12345, kc_65536, kc_252645135, kc_858993459, kc_1103515245, kc_1431655765, kc_2147483647, kc_0, kc_24, kc_28, kc_37, kc_41, kc_42, kc_73, kc_91, kc_95, kc_96, kc_98, kc_100, kc_112, kc_125, kc_150, kc_162, kc_163, kc_168, kc_186, kc_190, kc_250, kc_355, kc_356, kc_404, kc_405, kc_429, kc_573, kc_1002, kc_1100, kc_1891, kc_2200, kc_4719, kc_4869, kc_4881, kc_5148, kc_19741, kc_25433, kc_320403, kc_628412, kc_629093, kc_660401, kc_679843, kc_918640, kc_979410, kc_1178088, kc_6232410, kc_24644941, kc_36238189, kc_38270444, kc_392531318, kc_425693491, kc_1342154595, kc_2147483648, kc_42328242873, kc_891704255789, kc_1722105685577, kc_1858726030364, ct_0, ct_1, ct_2, ct_3, ct_4, ct_5, cf_0, cf_1, cf_2, cf_3, cf_4, cf_5, w_ty6, w_ty7, m_sv, m_z0, m_hd, m_g0, m_gs, m_s0, m_ss, m_ap, m_an, forall_const, true_and, and_true, ne_eq, not_true_eq_false, not_false_eq_true, false_implies, true_implies, implies_true, eq_self, reduceCtorEq, Nat.reduceDiv, Nat.reduceMod, Int.reduceToNat, or_true, true_or, or_false, false_or, or_self, m_it, m_if, m_c1, m_01, m_02, m_03, m_04, m_10, m_12, m_13, m_14, m_20, m_21, m_23, m_24, m_30, m_31, m_32, m_34, m_40, m_41, m_42, m_43, Int.reduceLE, Int.reduceLT, Int.reduceGE, Int.reduceGT, Int.reduceNeg, Int.reduceAdd, Int.reduceSub, Int.reduceMul, Int.reduceEq, Int.reduceNe, Nat.reduceAdd, jun2, ro_0_0, ro_0_1, ro_0_2, ro_0_3, ro_0_4, ro_0_5, ro_0_6, ro_0_7, ro_0_8, ro_0_9, ro_0_10, ro_0_11, ro_0_12, ro_1_0, ro_1_1, ro_2_0, ro_4_0, ro_6_0, ro_6_1, ro_6_2, ro_6_3, ro_6_4, ro_6_5, ro_6_6, ro_6_7, ro_6_8, ro_8_0, ro_10_0, ro_12_0, ro_14_0, ro_16_0, ro_18_0, ro_20_0, ro_22_0, ro_22_1, ro_22_2, ro_23_0, ro_25_0, ro_27_0, ro_29_0, ro_29_1, ro_29_2, ro_29_3, ro_29_4, ro_29_5, ro_29_6, ro_29_7, ro_29_8, ro_31_0, ro_33_0, ro_35_0, ro_37_0, ro_39_0, ro_41_0, ro_43_0, ro_45_0, ro_45_1, ro_45_2, ro_46_0, ro_48_0, ro_50_0, ro_52_0, ro_52_1, ro_52_2, ro_52_3, ro_53_0, ro_55_0, ro_57_0, ro_59_0, ro_61_0, ro_61_1, ro_61_2, ro_61_3, ro_62_0, ro_64_0, ro_66_0, ro_68_0, ro_70_0, ro_70_1, ro_70_2, ro_70_3, ro_70_4, ro_70_5, ro_70_6, ro_70_7, ro_70_8, ro_70_9, ro_71_0, ro_73_0, ro_75_0, ro_77_0, ro_79_0, ro_81_0, ro_83_0, ro_85_0, ro_87_0, ro_89_0, ro_91_0, ro_91_1, ro_91_2, ro_91_3, ro_91_4, ro_91_5, ro_91_6, ro_91_7, ro_91_8, ro_91_9, ro_92_0, ro_94_0, ro_96_0, ro_98_0, ro_100_0, ro_102_0, ro_104_0, ro_106_0, ro_108_0, ro_110_0, ro_112_0, ro_112_1, ro_112_2, ro_112_3, ro_112_4, ro_112_5, ro_112_6, ro_112_7, ro_112_8, ro_112_9, ro_113_0, ro_115_0, ro_117_0, ro_119_0, ro_121_0, ro_123_0, ro_125_0, ro_127_0, ro_129_0, ro_131_0, ro_133_0, ro_133_1, ro_133_2, ro_133_3, ro_133_4, ro_133_5, ro_133_6, ro_133_7, ro_133_8, ro_133_9, ro_134_0, ro_136_0, ro_138_0, ro_140_0, ro_142_0, ro_144_0, ro_146_0, ro_148_0, ro_150_0, ro_152_0, ro_154_0, ro_155_0, ro_157_0, ro_157_1, ro_157_2, ro_157_3, ro_157_4, ro_157_5, ro_157_6, ro_157_7, ro_157_8, ro_157_9, ro_158_0, ro_160_0, ro_162_0, ro_164_0, ro_166_0, ro_168_0, ro_170_0, ro_172_0, ro_174_0, ro_176_0, ro_178_0, ro_180_0, ro_182_1, ro_182_4, ro_182_5, ro_182_6, ro_182_9, ro_182_10, ro_182_11, ro_182_13, ro_182_14, ro_182_15, ro_182_16, ro_182_17, ro_182_20, ro_182_21, ro_182_22, ro_182_23, ro_182_24, ro_182_26, ro_182_27, ro_182_28, lo_3, lo_5, lo_7, lo_9, lo_11, lo_13, lo_15, lo_17, lo_19, lo_21, lo_24, lo_26, lo_28, lo_30, lo_32, lo_34, lo_36, lo_38, lo_40, lo_42, lo_44, lo_47, lo_49, lo_51, lo_54, lo_56, lo_58, lo_60, lo_63, lo_65, lo_67, lo_69, lo_72, lo_74, lo_76, lo_78, lo_80, lo_82, lo_84, lo_86, lo_88, lo_90, lo_93, lo_95, lo_97, lo_99, lo_101, lo_103, lo_105, lo_107, lo_109, lo_111, lo_114, lo_116, lo_118, lo_120, lo_122, lo_124, lo_126, lo_128, lo_130, lo_132, lo_135, lo_137, lo_139, lo_141, lo_143, lo_145, lo_147, lo_149, lo_151, lo_153, lo_156, lo_159, lo_161, lo_163, lo_165, lo_167, lo_169, lo_171, lo_173, lo_175, lo_177, lo_179, lo_181, lo_183, lo_184, lo_185, lo_186, lo_187, lo_188, lo_189, lo_190, lo_191, lo_192, lo_193, lo_194, lo_195, lo_196, lo_197, lo_198, lo_199, lo_200, lo_201, lo_202, lo_203]
    repeat' (first | exact hQ | (refine ⟨?_, ?_⟩) | (intro _))
    all_goals first | exact hQ | (rw [jp_t (by omega)] at hQ; exact hQ) | (rw [jp_f (by omega)] at hQ; exact hQ)
  · exact hQ.elim
theorem m_75 : BodyOK CS1 CS1 75 := fun av h Q hQ => by
  rw [cs1_75] at hQ
  unfold k75 at hQ
  split at hQ
  · rename_i o
    show pS CS1 bb_75 [o] h _
    unfold bb_75
    simp only [qe_1, qe_3, qe_4, qe_5, qe_7, qe_72, qe_10, qe_102, qe_13, qe_14, qe_15, qe_16, qe_17, qe_18, qe_20, qe_22, qe_23, qe_21, qe_24, qe_25, qe_26, qe_27, qe_28, qe_30, qe_31, qe_32, qc_20, qc_22, qc_23, qc_21, qc_24, qc_25, qc_26, qc_27, qc_1, qc_3, qc_4, qc_7, qc_13, qc_28, qc_32, qs_1, qs_2, qs_3, qs_4, qs_5, qs_6, qs_9, qs_10, qs_11, qs_14, qs_15, qs_16, qs_27, qs_17, qs_18, qs_19, qs_20, qs_22, qs_23, qs_28, qs_25, qs_26, qs_7, qs_8, kc_1, kn_1, kc_2, kn_2, kc_3, kn_3, kc_4, kn_4, kc_5, kn_5, kc_6, kn_6, kc_7, kn_7, kc_8, kn_8, kc_9, kn_9, kc_10, kn_10, kc_11, kn_11, kc_12, kn_12, kc_13, kn_13, kc_14, kn_14, kc_15, kn_15, kc_16, kc_17, kc_18, kc_19, kc_20, kc_21, kc_22, kc_23, kc_30, kc_32, kc_40, kc_43, kc_45, kc_48, kc_52, kc_56, kc_57, kc_59, kc_60, kc_61, kc_63, kc_64, kc_72, kc_78, kc_97, kc_99, kc_122, kc_126, kc_128, kc_192, kc_200, kc_255, kc_999, kc_1000, kc_9999, kn_9999, kc_10000, kc_12345, kc_65536, kc_252645135, kc_858993459, kc_1103515245, kc_1431655765, kc_2147483647, kc_0, kc_24, kc_28, kc_37, kc_41, kc_42, kc_73, kc_91, kc_95, kc_96, kc_98, kc_100, kc_112, kc_125, kc_150, kc_162, kc_163, kc_168, kc_186, kc_190, kc_250, kc_355, kc_356, kc_404, kc_405, kc_429, kc_573, kc_1002, kc_1100, kc_1891, kc_2200, kc_4719, kc_4869, kc_4881, kc_5148, kc_19741, kc_25433, kc_320403, kc_628412, kc_629093, kc_660401, kc_679843, kc_918640, kc_979410, kc_1178088, kc_6232410, kc_24644941, kc_36238189, kc_38270444, kc_392531318, kc_425693491, kc_1342154595, kc_2147483648, kc_42328242873, kc_891704255789, kc_1722105685577, kc_1858726030364, ct_0, ct_1, ct_2, ct_3, ct_4, ct_5, cf_0, cf_1, cf_2, cf_3, cf_4, cf_5, w_ty6, w_ty7, m_sv, m_z0, m_hd, m_g0, m_gs, m_s0, m_ss, m_ap, m_an, forall_const, true_and, and_true, ne_eq, not_true_eq_false, not_false_eq_true, false_implies, true_implies, implies_true, eq_self, reduceCtorEq, Nat.reduceDiv, Nat.reduceMod, Int.reduceToNat, or_true, true_or, or_false, false_or, or_self, m_it, m_if, m_c1, m_01, m_02, m_03, m_04, m_10, m_12, m_13, m_14, m_20, m_21, m_23, m_24, m_30, m_31, m_32, m_34, m_40, m_41, m_42, m_43, Int.reduceLE, Int.reduceLT, Int.reduceGE, Int.reduceGT, Int.reduceNeg, Int.reduceAdd, Int.reduceSub, Int.reduceMul, Int.reduceEq, Int.reduceNe, Nat.reduceAdd, jun2, ro_0_0, ro_0_1, ro_0_2, ro_0_3, ro_0_4, ro_0_5, ro_0_6, ro_0_7, ro_0_8, ro_0_9, ro_0_10, ro_0_11, ro_0_12, ro_1_0, ro_1_1, ro_2_0, ro_4_0, ro_6_0, ro_6_1, ro_6_2, ro_6_3, ro_6_4, ro_6_5, ro_6_6, ro_6_7, ro_6_8, ro_8_0, ro_10_0, ro_12_0, ro_14_0, ro_16_0, ro_18_0, ro_20_0, ro_22_0, ro_22_1, ro_22_2, ro_23_0, ro_25_0, ro_27_0, ro_29_0, ro_29_1, ro_29_2, ro_29_3, ro_29_4, ro_29_5, ro_29_6, ro_29_7, ro_29_8, ro_31_0, ro_33_0, ro_35_0, ro_37_0, ro_39_0, ro_41_0, ro_43_0, ro_45_0, ro_45_1, ro_45_2, ro_46_0, ro_48_0, ro_50_0, ro_52_0, ro_52_1, ro_52_2, ro_52_3, ro_53_0, ro_55_0, ro_57_0, ro_59_0, ro_61_0, ro_61_1, ro_61_2, ro_61_3, ro_62_0, ro_64_0, ro_66_0, ro_68_0, ro_70_0, ro_70_1, ro_70_2, ro_70_3, ro_70_4, ro_70_5, ro_70_6, ro_70_7, ro_70_8, ro_70_9, ro_71_0, ro_73_0, ro_75_0, ro_77_0, ro_79_0, ro_81_0, ro_83_0, ro_85_0, ro_87_0, ro_89_0, ro_91_0, ro_91_1, ro_91_2, ro_91_3, ro_91_4, ro_91_5, ro_91_6, ro_91_7, ro_91_8, ro_91_9, ro_92_0, ro_94_0, ro_96_0, ro_98_0, ro_100_0, ro_102_0, ro_104_0, ro_106_0, ro_108_0, ro_110_0, ro_112_0, ro_112_1, ro_112_2, ro_112_3, ro_112_4, ro_112_5, ro_112_6, ro_112_7, ro_112_8, ro_112_9, ro_113_0, ro_115_0, ro_117_0, ro_119_0, ro_121_0, ro_123_0, ro_125_0, ro_127_0, ro_129_0, ro_131_0, ro_133_0, ro_133_1, ro_133_2, ro_133_3, ro_133_4, ro_133_5, ro_133_6, ro_133_7, ro_133_8, ro_133_9, ro_134_0, ro_136_0, ro_138_0, ro_140_0, ro_142_0, ro_144_0, ro_146_0, ro_148_0, ro_150_0, ro_152_0, ro_154_0, ro_155_0, ro_157_0, ro_157_1, ro_157_2, ro_157_3, ro_157_4, ro_157_5, ro_157_6, ro_157_7, ro_157_8, ro_157_9, ro_158_0, ro_160_0, ro_162_0, ro_164_0, ro_166_0, ro_168_0, ro_170_0, ro_172_0, ro_174_0, ro_176_0, ro_178_0, ro_180_0, ro_182_1, ro_182_4, ro_182_5, ro_182_6, ro_182_9, ro_182_10, ro_182_11, ro_182_13, ro_182_14, ro_182_15, ro_182_16, ro_182_17, ro_182_20, ro_182_21, ro_182_22, ro_182_23, ro_182_24, ro_182_26, ro_182_27, ro_182_28, lo_3, lo_5, lo_7, lo_9, lo_11, lo_13, lo_15, lo_17, lo_19, lo_21, lo_24, lo_26, lo_28, lo_30, lo_32, lo_34, lo_36, lo_38, lo_40, lo_42, lo_44, lo_47, lo_49, lo_51, lo_54, lo_56, lo_58, lo_60, lo_63, lo_65, lo_67, lo_69, lo_72, lo_74, lo_76, lo_78, lo_80, lo_82, lo_84, lo_86, lo_88, lo_90, lo_93, lo_95, lo_97, lo_99, lo_101, lo_103, lo_105, lo_107, lo_109, lo_111, lo_114, lo_116, lo_118, lo_120, lo_122, lo_124, lo_126, lo_128, lo_130, lo_132, lo_135, lo_137, lo_139, lo_141, lo_143, lo_145, lo_147, lo_149, lo_151, lo_153, lo_156, lo_159, lo_161, lo_163, lo_165, lo_167, lo_169, lo_171, lo_173, lo_175, lo_177, lo_179, lo_181, lo_183, lo_184, lo_185, lo_186, lo_187, lo_188, lo_189, lo_190, lo_191, lo_192, lo_193, lo_194, lo_195, lo_196, lo_197, lo_198, lo_199, lo_200, lo_201, lo_202, lo_203]
    repeat' (first | exact hQ | (refine ⟨?_, ?_⟩) | (intro _))
    all_goals first | exact hQ | (rw [if_pos (by omega)] at hQ; exact hQ) | (rw [if_neg (by omega)] at hQ; exact hQ)
  · exact hQ.elim
theorem m_188 : BodyOK CS1 CS1 188 := fun av h Q hQ => by
  rw [cs1_188] at hQ
  unfold k188 at hQ
  split at hQ
  · rename_i c
    show pS CS1 bb_188 [c] h _
    unfold bb_188
    simp only [qe_1, qe_3, qe_4, qe_5, qe_7, qe_72, qe_10, qe_102, qe_13, qe_14, qe_15, qe_16, qe_17, qe_18, qe_20, qe_22, qe_23, qe_21, qe_24, qe_25, qe_26, qe_27, qe_28, qe_30, qe_31, qe_32, qc_20, qc_22, qc_23, qc_21, qc_24, qc_25, qc_26, qc_27, qc_1, qc_3, qc_4, qc_7, qc_13, qc_28, qc_32, qs_1, qs_2, qs_3, qs_4, qs_5, qs_6, qs_9, qs_10, qs_11, qs_14, qs_15, qs_16, qs_27, qs_17, qs_18, qs_19, qs_20, qs_22, qs_23, qs_28, qs_25, qs_26, qs_7, qs_8, kc_1, kn_1, kc_2, kn_2, kc_3, kn_3, kc_4, kn_4, kc_5, kn_5, kc_6, kn_6, kc_7, kn_7, kc_8, kn_8, kc_9, kn_9, kc_10, kn_10, kc_11, kn_11, kc_12, kn_12, kc_13, kn_13, kc_14, kn_14, kc_15, kn_15, kc_16, kc_17, kc_18, kc_19, kc_20, kc_21, kc_22, kc_23, kc_30, kc_32, kc_40, kc_43, kc_45, kc_48, kc_52, kc_56, kc_57, kc_59, kc_60, kc_61, kc_63, kc_64, kc_72, kc_78, kc_97, kc_99, kc_122, kc_126, kc_128, kc_192, kc_200, kc_255, kc_999, kc_1000, kc_9999, kn_9999, kc_10000, kc_12345, kc_65536, kc_252645135, kc_858993459, kc_1103515245, kc_1431655765, kc_2147483647, kc_0, kc_24, kc_28, kc_37, kc_41, kc_42, kc_73, kc_91, kc_95, kc_96, kc_98, kc_100, kc_112, kc_125, kc_150, kc_162, kc_163, kc_168, kc_186, kc_190, kc_250, kc_355, kc_356, kc_404, kc_405, kc_429, kc_573, kc_1002, kc_1100, kc_1891, kc_2200, kc_4719, kc_4869, kc_4881, kc_5148, kc_19741, kc_25433, kc_320403, kc_628412, kc_629093, kc_660401, kc_679843, kc_918640, kc_979410, kc_1178088, kc_6232410, kc_24644941, kc_36238189, kc_38270444, kc_392531318, kc_425693491, kc_1342154595, kc_2147483648, kc_42328242873, kc_891704255789, kc_1722105685577, kc_1858726030364, ct_0, ct_1, ct_2, ct_3, ct_4, ct_5, cf_0, cf_1, cf_2, cf_3, cf_4, cf_5, w_ty6, w_ty7, m_sv, m_z0, m_hd, m_g0, m_gs, m_s0, m_ss, m_ap, m_an, forall_const, true_and, and_true, ne_eq, not_true_eq_false, not_false_eq_true, false_implies, true_implies, implies_true, eq_self, reduceCtorEq, Nat.reduceDiv, Nat.reduceMod, Int.reduceToNat, or_true, true_or, or_false, false_or, or_self, m_it, m_if, m_c1, m_01, m_02, m_03, m_04, m_10, m_12, m_13, m_14, m_20, m_21, m_23, m_24, m_30, m_31, m_32, m_34, m_40, m_41, m_42, m_43, Int.reduceLE, Int.reduceLT, Int.reduceGE, Int.reduceGT, Int.reduceNeg, Int.reduceAdd, Int.reduceSub, Int.reduceMul, Int.reduceEq, Int.reduceNe, Nat.reduceAdd, jun2, ro_0_0, ro_0_1, ro_0_2, ro_0_3, ro_0_4, ro_0_5, ro_0_6, ro_0_7, ro_0_8, ro_0_9, ro_0_10, ro_0_11, ro_0_12, ro_1_0, ro_1_1, ro_2_0, ro_4_0, ro_6_0, ro_6_1, ro_6_2, ro_6_3, ro_6_4, ro_6_5, ro_6_6, ro_6_7, ro_6_8, ro_8_0, ro_10_0, ro_12_0, ro_14_0, ro_16_0, ro_18_0, ro_20_0, ro_22_0, ro_22_1, ro_22_2, ro_23_0, ro_25_0, ro_27_0, ro_29_0, ro_29_1, ro_29_2, ro_29_3, ro_29_4, ro_29_5, ro_29_6, ro_29_7, ro_29_8, ro_31_0, ro_33_0, ro_35_0, ro_37_0, ro_39_0, ro_41_0, ro_43_0, ro_45_0, ro_45_1, ro_45_2, ro_46_0, ro_48_0, ro_50_0, ro_52_0, ro_52_1, ro_52_2, ro_52_3, ro_53_0, ro_55_0, ro_57_0, ro_59_0, ro_61_0, ro_61_1, ro_61_2, ro_61_3, ro_62_0, ro_64_0, ro_66_0, ro_68_0, ro_70_0, ro_70_1, ro_70_2, ro_70_3, ro_70_4, ro_70_5, ro_70_6, ro_70_7, ro_70_8, ro_70_9, ro_71_0, ro_73_0, ro_75_0, ro_77_0, ro_79_0, ro_81_0, ro_83_0, ro_85_0, ro_87_0, ro_89_0, ro_91_0, ro_91_1, ro_91_2, ro_91_3, ro_91_4, ro_91_5, ro_91_6, ro_91_7, ro_91_8, ro_91_9, ro_92_0, ro_94_0, ro_96_0, ro_98_0, ro_100_0, ro_102_0, ro_104_0, ro_106_0, ro_108_0, ro_110_0, ro_112_0, ro_112_1, ro_112_2, ro_112_3, ro_112_4, ro_112_5, ro_112_6, ro_112_7, ro_112_8, ro_112_9, ro_113_0, ro_115_0, ro_117_0, ro_119_0, ro_121_0, ro_123_0, ro_125_0, ro_127_0, ro_129_0, ro_131_0, ro_133_0, ro_133_1, ro_133_2, ro_133_3, ro_133_4, ro_133_5, ro_133_6, ro_133_7, ro_133_8, ro_133_9, ro_134_0, ro_136_0, ro_138_0, ro_140_0, ro_142_0, ro_144_0, ro_146_0, ro_148_0, ro_150_0, ro_152_0, ro_154_0, ro_155_0, ro_157_0, ro_157_1, ro_157_2, ro_157_3, ro_157_4, ro_157_5, ro_157_6, ro_157_7, ro_157_8, ro_157_9, ro_158_0, ro_160_0, ro_162_0, ro_164_0, ro_166_0, ro_168_0, ro_170_0, ro_172_0, ro_174_0, ro_176_0, ro_178_0, ro_180_0, ro_182_1, ro_182_4, ro_182_5, ro_182_6, ro_182_9, ro_182_10, ro_182_11, ro_182_13, ro_182_14, ro_182_15, ro_182_16, ro_182_17, ro_182_20, ro_182_21, ro_182_22, ro_182_23, ro_182_24, ro_182_26, ro_182_27, ro_182_28, lo_3, lo_5, lo_7, lo_9, lo_11, lo_13, lo_15, lo_17, lo_19, lo_21, lo_24, lo_26, lo_28, lo_30, lo_32, lo_34, lo_36, lo_38, lo_40, lo_42, lo_44, lo_47, lo_49, lo_51, lo_54, lo_56, lo_58, lo_60, lo_63, lo_65, lo_67, lo_69, lo_72, lo_74, lo_76, lo_78, lo_80, lo_82, lo_84, lo_86, lo_88, lo_90, lo_93, lo_95, lo_97, lo_99, lo_101, lo_103, lo_105, lo_107, lo_109, lo_111, lo_114, lo_116, lo_118, lo_120, lo_122, lo_124, lo_126, lo_128, lo_130, lo_132, lo_135, lo_137, lo_139, lo_141, lo_143, lo_145, lo_147, lo_149, lo_151, lo_153, lo_156, lo_159, lo_161, lo_163, lo_165, lo_167, lo_169, lo_171, lo_173, lo_175, lo_177, lo_179, lo_181, lo_183, lo_184, lo_185, lo_186, lo_187, lo_188, lo_189, lo_190, lo_191, lo_192, lo_193, lo_194, lo_195, lo_196, lo_197, lo_198, lo_199, lo_200, lo_201, lo_202, lo_203, cs1_186, kk_186, jp_nn, jp_eq]
    repeat' (first | exact hQ | (refine ⟨?_, ?_⟩) | (intro _))
    all_goals first | exact hQ | (rw [if_pos (by omega)] at hQ; exact hQ) | (rw [if_neg (by omega)] at hQ; exact hQ)
  · exact hQ.elim
theorem m_198 : BodyOK CS1 CS1 198 := fun av h Q hQ => by
  rw [cs1_198] at hQ
  unfold k198 at hQ
  split at hQ
  · rename_i v l u
    show pS CS1 bb_198 [v, l, u] h _
    unfold bb_198
    simp only [qe_1, qe_3, qe_4, qe_5, qe_7, qe_72, qe_10, qe_102, qe_13, qe_14, qe_15, qe_16, qe_17, qe_18, qe_20, qe_22, qe_23, qe_21, qe_24, qe_25, qe_26, qe_27, qe_28, qe_30, qe_31, qe_32, qc_20, qc_22, qc_23, qc_21, qc_24, qc_25, qc_26, qc_27, qc_1, qc_3, qc_4, qc_7, qc_13, qc_28, qc_32, qs_1, qs_2, qs_3, qs_4, qs_5, qs_6, qs_9, qs_10, qs_11, qs_14, qs_15, qs_16, qs_27, qs_17, qs_18, qs_19, qs_20, qs_22, qs_23, qs_28, qs_25, qs_26, qs_7, qs_8, kc_1, kn_1, kc_2, kn_2, kc_3, kn_3, kc_4, kn_4, kc_5, kn_5, kc_6, kn_6, kc_7, kn_7, kc_8, kn_8, kc_9, kn_9, kc_10, kn_10, kc_11, kn_11, kc_12, kn_12, kc_13, kn_13, kc_14, kn_14, kc_15, kn_15, kc_16, kc_17, kc_18, kc_19, kc_20, kc_21, kc_22, kc_23, kc_30, kc_32, kc_40, kc_43, kc_45, kc_48, kc_52, kc_56, kc_57, kc_59, kc_60, kc_61, kc_63, kc_64, kc_72, kc_78, kc_97, kc_99, kc_122, kc_126, kc_128, kc_192, kc_200, kc_255, kc_999, kc_1000, kc_9999, kn_9999, kc_10000, kc_12345, kc_65536, kc_252645135, kc_858993459, kc_1103515245, kc_1431655765, kc_2147483647, kc_0, kc_24, kc_28, kc_37, kc_41, kc_42, kc_73, kc_91, kc_95, kc_96, kc_98, kc_100, kc_112, kc_125, kc_150, kc_162, kc_163, kc_168, kc_186, kc_190, kc_250, kc_355, kc_356, kc_404, kc_405, kc_429, kc_573, kc_1002, kc_1100, kc_1891, kc_2200, kc_4719, kc_4869, kc_4881, kc_5148, kc_19741, kc_25433, kc_320403, kc_628412, kc_629093, kc_660401, kc_679843, kc_918640, kc_979410, kc_1178088, kc_6232410, kc_24644941, kc_36238189, kc_38270444, kc_392531318, kc_425693491, kc_1342154595, kc_2147483648, kc_42328242873, kc_891704255789, kc_1722105685577, kc_1858726030364, ct_0, ct_1, ct_2, ct_3, ct_4, ct_5, cf_0, cf_1, cf_2, cf_3, cf_4, cf_5, w_ty6, w_ty7, m_sv, m_z0, m_hd, m_g0, m_gs, m_s0, m_ss, m_ap, m_an, forall_const, true_and, and_true, ne_eq, not_true_eq_false, not_false_eq_true, false_implies, true_implies, implies_true, eq_self, reduceCtorEq, Nat.reduceDiv, Nat.reduceMod, Int.reduceToNat, or_true, true_or, or_false, false_or, or_self, m_it, m_if, m_c1, m_01, m_02, m_03, m_04, m_10, m_12, m_13, m_14, m_20, m_21, m_23, m_24, m_30, m_31, m_32, m_34, m_40, m_41, m_42, m_43, Int.reduceLE, Int.reduceLT, Int.reduceGE, Int.reduceGT, Int.reduceNeg, Int.reduceAdd, Int.reduceSub, Int.reduceMul, Int.reduceEq, Int.reduceNe, Nat.reduceAdd, jun2, ro_0_0, ro_0_1, ro_0_2, ro_0_3, ro_0_4, ro_0_5, ro_0_6, ro_0_7, ro_0_8, ro_0_9, ro_0_10, ro_0_11, ro_0_12, ro_1_0, ro_1_1, ro_2_0, ro_4_0, ro_6_0, ro_6_1, ro_6_2, ro_6_3, ro_6_4, ro_6_5, ro_6_6, ro_6_7, ro_6_8, ro_8_0, ro_10_0, ro_12_0, ro_14_0, ro_16_0, ro_18_0, ro_20_0, ro_22_0, ro_22_1, ro_22_2, ro_23_0, ro_25_0, ro_27_0, ro_29_0, ro_29_1, ro_29_2, ro_29_3, ro_29_4, ro_29_5, ro_29_6, ro_29_7, ro_29_8, ro_31_0, ro_33_0, ro_35_0, ro_37_0, ro_39_0, ro_41_0, ro_43_0, ro_45_0, ro_45_1, ro_45_2, ro_46_0, ro_48_0, ro_50_0, ro_52_0, ro_52_1, ro_52_2, ro_52_3, ro_53_0, ro_55_0, ro_57_0, ro_59_0, ro_61_0, ro_61_1, ro_61_2, ro_61_3, ro_62_0, ro_64_0, ro_66_0, ro_68_0, ro_70_0, ro_70_1, ro_70_2, ro_70_3, ro_70_4, ro_70_5, ro_70_6, ro_70_7, ro_70_8, ro_70_9, ro_71_0, ro_73_0, ro_75_0, ro_77_0, ro_79_0, ro_81_0, ro_83_0, ro_85_0, ro_87_0, ro_89_0, ro_91_0, ro_91_1, ro_91_2, ro_91_3, ro_91_4, ro_91_5, ro_91_6, ro_91_7, ro_91_8, ro_91_9, ro_92_0, ro_94_0, ro_96_0, ro_98_0, ro_100_0, ro_102_0, ro_104_0, ro_106_0, ro_108_0, ro_110_0, ro_112_0, ro_112_1, ro_112_2, ro_112_3, ro_112_4, ro_112_5, ro_112_6, ro_112_7, ro_112_8, ro_112_9, ro_113_0, ro_115_0, ro_117_0, ro_119_0, ro_121_0, ro_123_0, ro_125_0, ro_127_0, ro_129_0, ro_131_0, ro_133_0, ro_133_1, ro_133_2, ro_133_3, ro_133_4, ro_133_5, ro_133_6, ro_133_7, ro_133_8, ro_133_9, ro_134_0, ro_136_0, ro_138_0, ro_140_0, ro_142_0, ro_144_0, ro_146_0, ro_148_0, ro_150_0, ro_152_0, ro_154_0, ro_155_0, ro_157_0, ro_157_1, ro_157_2, ro_157_3, ro_157_4, ro_157_5, ro_157_6, ro_157_7, ro_157_8, ro_157_9, ro_158_0, ro_160_0, ro_162_0, ro_164_0, ro_166_0, ro_168_0, ro_170_0, ro_172_0, ro_174_0, ro_176_0, ro_178_0, ro_180_0, ro_182_1, ro_182_4, ro_182_5, ro_182_6, ro_182_9, ro_182_10, ro_182_11, ro_182_13, ro_182_14, ro_182_15, ro_182_16, ro_182_17, ro_182_20, ro_182_21, ro_182_22, ro_182_23, ro_182_24, ro_182_26, ro_182_27, ro_182_28, lo_3, lo_5, lo_7, lo_9, lo_11, lo_13, lo_15, lo_17, lo_19, lo_21, lo_24, lo_26, lo_28, lo_30, lo_32, lo_34, lo_36, lo_38, lo_40, lo_42, lo_44, lo_47, lo_49, lo_51, lo_54, lo_56, lo_58, lo_60, lo_63, lo_65, lo_67, lo_69, lo_72, lo_74, lo_76, lo_78, lo_80, lo_82, lo_84, lo_86, lo_88, lo_90, lo_93, lo_95, lo_97, lo_99, lo_101, lo_103, lo_105, lo_107, lo_109, lo_111, lo_114, lo_116, lo_118, lo_120, lo_122, lo_124, lo_126, lo_128, lo_130, lo_132, lo_135, lo_137, lo_139, lo_141, lo_143, lo_145, lo_147, lo_149, lo_151, lo_153, lo_156, lo_159, lo_161, lo_163, lo_165, lo_167, lo_169, lo_171, lo_173, lo_175, lo_177, lo_179, lo_181, lo_183, lo_184, lo_185, lo_186, lo_187, lo_188, lo_189, lo_190, lo_191, lo_192, lo_193, lo_194, lo_195, lo_196, lo_197, lo_198, lo_199, lo_200, lo_201, lo_202, lo_203]
    repeat' (first | exact hQ | (refine ⟨?_, ?_⟩) | (intro _))
    all_goals first | exact hQ | (rw [jp_t (by omega)] at hQ; exact hQ) | (rw [jp_f (by omega)] at hQ; exact hQ)
  · exact hQ.elim
theorem m_192 : BodyOK CS1 CS1 192 := fun av h Q hQ => by
  rw [cs1_192] at hQ
  unfold k192 at hQ
  split at hQ
  · rename_i x c
    obtain ⟨rfl, hQ⟩ := hQ
    show pS CS1 bb_192 [182, c] h _
    unfold bb_192
    simp only [qe_1, qe_3, qe_4, qe_5, qe_7, qe_72, qe_10, qe_102, qe_13, qe_14, qe_15, qe_16, qe_17, qe_18, qe_20, qe_22, qe_23, qe_21, qe_24, qe_25, qe_26, qe_27, qe_28, qe_30, qe_31, qe_32, qc_20, qc_22, qc_23, qc_21, qc_24, qc_25, qc_26, qc_27, qc_1, qc_3, qc_4, qc_7, qc_13, qc_28, qc_32, qs_1, qs_2, qs_3, qs_4, qs_5, qs_6, qs_9, qs_10, qs_11, qs_14, qs_15, qs_16, qs_27, qs_17, qs_18, qs_19, qs_20, qs_22, qs_23, qs_28, qs_25, qs_26, qs_7, qs_8, kc_1, kn_1, kc_2, kn_2, kc_3, kn_3, kc_4, kn_4, kc_5, kn_5, kc_6, kn_6, kc_7, kn_7, kc_8, kn_8, kc_9, kn_9, kc_10, kn_10, kc_11, kn_11, kc_12, kn_12, kc_13, kn_13, kc_14, kn_14, kc_15, kn_15, kc_16, kc_17, kc_18, kc_19, kc_20, kc_21, kc_22, kc_23, kc_30, kc_32, kc_40, kc_43, kc_45, kc_48, kc_52, kc_56, kc_57, kc_59, kc_60, kc_61, kc_63, kc_64, kc_72, kc_78, kc_97, kc_99, kc_122, kc_126, kc_128, kc_192, kc_200, kc_255, kc_999, kc_1000, kc_9999, kn_9999, kc_10000, kc_12345, kc_65536, kc_252645135, kc_858993459, kc_1103515245, kc_1431655765, kc_2147483647, kc_0, kc_24, kc_28, kc_37, kc_41, kc_42, kc_73, kc_91, kc_95, kc_96, kc_98, kc_100, kc_112, kc_125, kc_150, kc_162, kc_163, kc_168, kc_186, kc_190, kc_250, kc_355, kc_356, kc_404, kc_405, kc_429, kc_573, kc_1002, kc_1100, kc_1891, kc_2200, kc_4719, kc_4869, kc_4881, kc_5148, kc_19741, kc_25433, kc_320403, kc_628412, kc_629093, kc_660401, kc_679843, kc_918640, kc_979410, kc_1178088, kc_6232410, kc_24644941, kc_36238189, kc_38270444, kc_392531318, kc_425693491, kc_1342154595, kc_2147483648, kc_42328242873, kc_891704255789, kc_1722105685577, kc_1858726030364, ct_0, ct_1, ct_2, ct_3, ct_4, ct_5, cf_0, cf_1, cf_2, cf_3, cf_4, cf_5, w_ty6, w_ty7, m_sv, m_z0, m_hd, m_g0, m_gs, m_s0, m_ss, m_ap, m_an, forall_const, true_and, and_true, ne_eq, not_true_eq_false, not_false_eq_true, false_implies, true_implies, implies_true, eq_self, reduceCtorEq, Nat.reduceDiv, Nat.reduceMod, Int.reduceToNat, or_true, true_or, or_false, false_or, or_self, m_it, m_if, m_c1, m_01, m_02, m_03, m_04, m_10, m_12, m_13, m_14, m_20, m_21, m_23, m_24, m_30, m_31, m_32, m_34, m_40, m_41, m_42, m_43, Int.reduceLE, Int.reduceLT, Int.reduceGE, Int.reduceGT, Int.reduceNeg, Int.reduceAdd, Int.reduceSub, Int.reduceMul, Int.reduceEq, Int.reduceNe, Nat.reduceAdd, jun2, ro_0_0, ro_0_1, ro_0_2, ro_0_3, ro_0_4, ro_0_5, ro_0_6, ro_0_7, ro_0_8, ro_0_9, ro_0_10, ro_0_11, ro_0_12, ro_1_0, ro_1_1, ro_2_0, ro_4_0, ro_6_0, ro_6_1, ro_6_2, ro_6_3, ro_6_4, ro_6_5, ro_6_6, ro_6_7, ro_6_8, ro_8_0, ro_10_0, ro_12_0, ro_14_0, ro_16_0, ro_18_0, ro_20_0, ro_22_0, ro_22_1, ro_22_2, ro_23_0, ro_25_0, ro_27_0, ro_29_0, ro_29_1, ro_29_2, ro_29_3, ro_29_4, ro_29_5, ro_29_6, ro_29_7, ro_29_8, ro_31_0, ro_33_0, ro_35_0, ro_37_0, ro_39_0, ro_41_0, ro_43_0, ro_45_0, ro_45_1, ro_45_2, ro_46_0, ro_48_0, ro_50_0, ro_52_0, ro_52_1, ro_52_2, ro_52_3, ro_53_0, ro_55_0, ro_57_0, ro_59_0, ro_61_0, ro_61_1, ro_61_2, ro_61_3, ro_62_0, ro_64_0, ro_66_0, ro_68_0, ro_70_0, ro_70_1, ro_70_2, ro_70_3, ro_70_4, ro_70_5, ro_70_6, ro_70_7, ro_70_8, ro_70_9, ro_71_0, ro_73_0, ro_75_0, ro_77_0, ro_79_0, ro_81_0, ro_83_0, ro_85_0, ro_87_0, ro_89_0, ro_91_0, ro_91_1, ro_91_2, ro_91_3, ro_91_4, ro_91_5, ro_91_6, ro_91_7, ro_91_8, ro_91_9, ro_92_0, ro_94_0, ro_96_0, ro_98_0, ro_100_0, ro_102_0, ro_104_0, ro_106_0, ro_108_0, ro_110_0, ro_112_0, ro_112_1, ro_112_2, ro_112_3, ro_112_4, ro_112_5, ro_112_6, ro_112_7, ro_112_8, ro_112_9, ro_113_0, ro_115_0, ro_117_0, ro_119_0, ro_121_0, ro_123_0, ro_125_0, ro_127_0, ro_129_0, ro_131_0, ro_133_0, ro_133_1, ro_133_2, ro_133_3, ro_133_4, ro_133_5, ro_133_6, ro_133_7, ro_133_8, ro_133_9, ro_134_0, ro_136_0, ro_138_0, ro_140_0, ro_142_0, ro_144_0, ro_146_0, ro_148_0, ro_150_0, ro_152_0, ro_154_0, ro_155_0, ro_157_0, ro_157_1, ro_157_2, ro_157_3, ro_157_4, ro_157_5, ro_157_6, ro_157_7, ro_157_8, ro_157_9, ro_158_0, ro_160_0, ro_162_0, ro_164_0, ro_166_0, ro_168_0, ro_170_0, ro_172_0, ro_174_0, ro_176_0, ro_178_0, ro_180_0, ro_182_1, ro_182_4, ro_182_5, ro_182_6, ro_182_9, ro_182_10, ro_182_11, ro_182_13, ro_182_14, ro_182_15, ro_182_16, ro_182_17, ro_182_20, ro_182_21, ro_182_22, ro_182_23, ro_182_24, ro_182_26, ro_182_27, ro_182_28, lo_3, lo_5, lo_7, lo_9, lo_11, lo_13, lo_15, lo_17, lo_19, lo_21, lo_24, lo_26, lo_28, lo_30, lo_32, lo_34, lo_36, lo_38, lo_40, lo_42, lo_44, lo_47, lo_49, lo_51, lo_54, lo_56, lo_58, lo_60, lo_63, lo_65, lo_67, lo_69, lo_72, lo_74, lo_76, lo_78, lo_80, lo_82, lo_84, lo_86, lo_88, lo_90, lo_93, lo_95, lo_97, lo_99, lo_101, lo_103, lo_105, lo_107, lo_109, lo_111, lo_114, lo_116, lo_118, lo_120, lo_122, lo_124, lo_126, lo_128, lo_130, lo_132, lo_135, lo_137, lo_139, lo_141, lo_143, lo_145, lo_147, lo_149, lo_151, lo_153, lo_156, lo_159, lo_161, lo_163, lo_165, lo_167, lo_169, lo_171, lo_173, lo_175, lo_177, lo_179, lo_181, lo_183, lo_184, lo_185, lo_186, lo_187, lo_188, lo_189, lo_190, lo_191, lo_192, lo_193, lo_194, lo_195, lo_196, lo_197, lo_198, lo_199, lo_200, lo_201, lo_202, lo_203]
    repeat' (first | exact hQ | (refine ⟨?_, ?_⟩) | (intro _))
    all_goals first | exact hQ | (rw [jp_t (by omega)] at hQ; exact hQ) | (rw [jp_f (by omega)] at hQ; exact hQ)
  · exact hQ.elim
theorem m_193 : BodyOK CS1 CS1 193 := fun av h Q hQ => by
  rw [cs1_193] at hQ
  unfold k193 at hQ
  split at hQ
  · rename_i x w
    obtain ⟨rfl, hQ⟩ := hQ
    show pS CS1 bb_193 [182, w] h _
    unfold bb_193
    simp only [qe_1, qe_3, qe_4, qe_5, qe_7, qe_72, qe_10, qe_102, qe_13, qe_14, qe_15, qe_16, qe_17, qe_18, qe_20, qe_22, qe_23, qe_21, qe_24, qe_25, qe_26, qe_27, qe_28, qe_30, qe_31, qe_32, qc_20, qc_22, qc_23, qc_21, qc_24, qc_25, qc_26, qc_27, qc_1, qc_3, qc_4, qc_7, qc_13, qc_28, qc_32, qs_1, qs_2, qs_3, qs_4, qs_5, qs_6, qs_9, qs_10, qs_11, qs_14, qs_15, qs_16, qs_27, qs_17, qs_18, qs_19, qs_20, qs_22, qs_23, qs_28, qs_25, qs_26, qs_7, qs_8, kc_1, kn_1, kc_2, kn_2, kc_3, kn_3, kc_4, kn_4, kc_5, kn_5, kc_6, kn_6, kc_7, kn_7, kc_8, kn_8, kc_9, kn_9, kc_10, kn_10, kc_11, kn_11, kc_12, kn_12, kc_13, kn_13, kc_14, kn_14, kc_15, kn_15, kc_16, kc_17, kc_18, kc_19, kc_20, kc_21, kc_22, kc_23, kc_30, kc_32, kc_40, kc_43, kc_45, kc_48, kc_52, kc_56, kc_57, kc_59, kc_60, kc_61, kc_63, kc_64, kc_72, kc_78, kc_97, kc_99, kc_122, kc_126, kc_128, kc_192, kc_200, kc_255, kc_999, kc_1000, kc_9999, kn_9999, kc_10000, kc_12345, kc_65536, kc_252645135, kc_858993459, kc_1103515245, kc_1431655765, kc_2147483647, kc_0, kc_24, kc_28, kc_37, kc_41, kc_42, kc_73, kc_91, kc_95, kc_96, kc_98, kc_100, kc_112, kc_125, kc_150, kc_162, kc_163, kc_168, kc_186, kc_190, kc_250, kc_355, kc_356, kc_404, kc_405, kc_429, kc_573, kc_1002, kc_1100, kc_1891, kc_2200, kc_4719, kc_4869, kc_4881, kc_5148, kc_19741, kc_25433, kc_320403, kc_628412, kc_629093, kc_660401, kc_679843, kc_918640, kc_979410, kc_1178088, kc_6232410, kc_24644941, kc_36238189, kc_38270444, kc_392531318, kc_425693491, kc_1342154595, kc_2147483648, kc_42328242873, kc_891704255789, kc_1722105685577, kc_1858726030364, ct_0, ct_1, ct_2, ct_3, ct_4, ct_5, cf_0, cf_1, cf_2, cf_3, cf_4, cf_5, w_ty6, w_ty7, m_sv, m_z0, m_hd, m_g0, m_gs, m_s0, m_ss, m_ap, m_an, forall_const, true_and, and_true, ne_eq, not_true_eq_false, not_false_eq_true, false_implies, true_implies, implies_true, eq_self, reduceCtorEq, Nat.reduceDiv, Nat.reduceMod, Int.reduceToNat, or_true, true_or, or_false, false_or, or_self, m_it, m_if, m_c1, m_01, m_02, m_03, m_04, m_10, m_12, m_13, m_14, m_20, m_21, m_23, m_24, m_30, m_31, m_32, m_34, m_40, m_41, m_42, m_43, Int.reduceLE, Int.reduceLT, Int.reduceGE, Int.reduceGT, Int.reduceNeg, Int.reduceAdd, Int.reduceSub, Int.reduceMul, Int.reduceEq, Int.reduceNe, Nat.reduceAdd, jun2, ro_0_0, ro_0_1, ro_0_2, ro_0_3, ro_0_4, ro_0_5, ro_0_6, ro_0_7, ro_0_8, ro_0_9, ro_0_10, ro_0_11, ro_0_12, ro_1_0, ro_1_1, ro_2_0, ro_4_0, ro_6_0, ro_6_1, ro_6_2, ro_6_3, ro_6_4, ro_6_5, ro_6_6, ro_6_7, ro_6_8, ro_8_0, ro_10_0, ro_12_0, ro_14_0, ro_16_0, ro_18_0, ro_20_0, ro_22_0, ro_22_1, ro_22_2, ro_23_0, ro_25_0, ro_27_0, ro_29_0, ro_29_1, ro_29_2, ro_29_3, ro_29_4, ro_29_5, ro_29_6, ro_29_7, ro_29_8, ro_31_0, ro_33_0, ro_35_0, ro_37_0, ro_39_0, ro_41_0, ro_43_0, ro_45_0, ro_45_1, ro_45_2, ro_46_0, ro_48_0, ro_50_0, ro_52_0, ro_52_1, ro_52_2, ro_52_3, ro_53_0, ro_55_0, ro_57_0, ro_59_0, ro_61_0, ro_61_1, ro_61_2, ro_61_3, ro_62_0, ro_64_0, ro_66_0, ro_68_0, ro_70_0, ro_70_1, ro_70_2, ro_70_3, ro_70_4, ro_70_5, ro_70_6, ro_70_7, ro_70_8, ro_70_9, ro_71_0, ro_73_0, ro_75_0, ro_77_0, ro_79_0, ro_81_0, ro_83_0, ro_85_0, ro_87_0, ro_89_0, ro_91_0, ro_91_1, ro_91_2, ro_91_3, ro_91_4, ro_91_5, ro_91_6, ro_91_7, ro_91_8, ro_91_9, ro_92_0, ro_94_0, ro_96_0, ro_98_0, ro_100_0, ro_102_0, ro_104_0, ro_106_0, ro_108_0, ro_110_0, ro_112_0, ro_112_1, ro_112_2, ro_112_3, ro_112_4, ro_112_5, ro_112_6, ro_112_7, ro_112_8, ro_112_9, ro_113_0, ro_115_0, ro_117_0, ro_119_0, ro_121_0, ro_123_0, ro_125_0, ro_127_0, ro_129_0, ro_131_0, ro_133_0, ro_133_1, ro_133_2, ro_133_3, ro_133_4, ro_133_5, ro_133_6, ro_133_7, ro_133_8, ro_133_9, ro_134_0, ro_136_0, ro_138_0, ro_140_0, ro_142_0, ro_144_0, ro_146_0, ro_148_0, ro_150_0, ro_152_0, ro_154_0, ro_155_0, ro_157_0, ro_157_1, ro_157_2, ro_157_3, ro_157_4, ro_157_5, ro_157_6, ro_157_7, ro_157_8, ro_157_9, ro_158_0, ro_160_0, ro_162_0, ro_164_0, ro_166_0, ro_168_0, ro_170_0, ro_172_0, ro_174_0, ro_176_0, ro_178_0, ro_180_0, ro_182_1, ro_182_4, ro_182_5, ro_182_6, ro_182_9, ro_182_10, ro_182_11, ro_182_13, ro_182_14, ro_182_15, ro_182_16, ro_182_17, ro_182_20, ro_182_21, ro_182_22, ro_182_23, ro_182_24, ro_182_26, ro_182_27, ro_182_28, lo_3, lo_5, lo_7, lo_9, lo_11, lo_13, lo_15, lo_17, lo_19, lo_21, lo_24, lo_26, lo_28, lo_30, lo_32, lo_34, lo_36, lo_38, lo_40, lo_42, lo_44, lo_47, lo_49, lo_51, lo_54, lo_56, lo_58, lo_60, lo_63, lo_65, lo_67, lo_69, lo_72, lo_74, lo_76, lo_78, lo_80, lo_82, lo_84, lo_86, lo_88, lo_90, lo_93, lo_95, lo_97, lo_99, lo_101, lo_103, lo_105, lo_107, lo_109, lo_111, lo_114, lo_116, lo_118, lo_120, lo_122, lo_124, lo_126, lo_128, lo_130, lo_132, lo_135, lo_137, lo_139, lo_141, lo_143, lo_145, lo_147, lo_149, lo_151, lo_153, lo_156, lo_159, lo_161, lo_163, lo_165, lo_167, lo_169, lo_171, lo_173, lo_175, lo_177, lo_179, lo_181, lo_183, lo_184, lo_185, lo_186, lo_187, lo_188, lo_189, lo_190, lo_191, lo_192, lo_193, lo_194, lo_195, lo_196, lo_197, lo_198, lo_199, lo_200, lo_201, lo_202, lo_203]
    repeat' (first | exact hQ | (refine ⟨?_, ?_⟩) | (intro _))
    all_goals first | exact hQ | (rw [jp_t (by omega)] at hQ; exact hQ) | (rw [jp_f (by omega)] at hQ; exact hQ)
  · exact hQ.elim
theorem m_191 : BodyOK CS1 CS1 191 := fun av h Q hQ => by
  rw [cs1_191] at hQ
  unfold k191 at hQ
  split at hQ
  · rename_i x w
    obtain ⟨rfl, hQ⟩ := hQ
    show pS CS1 bb_191 [182, w] h _
    unfold bb_191
    simp only [qe_1, qe_3, qe_4, qe_5, qe_7, qe_72, qe_10, qe_102, qe_13, qe_14, qe_15, qe_16, qe_17, qe_18, qe_20, qe_22, qe_23, qe_21, qe_24, qe_25, qe_26, qe_27, qe_28, qe_30, qe_31, qe_32, qc_20, qc_22, qc_23, qc_21, qc_24, qc_25, qc_26, qc_27, qc_1, qc_3, qc_4, qc_7, qc_13, qc_28, qc_32, qs_1, qs_2, qs_3, qs_4, qs_5, qs_6, qs_9, qs_10, qs_11, qs_14, qs_15, qs_16, qs_27, qs_17, qs_18, qs_19, qs_20, qs_22, qs_23, qs_28, qs_25, qs_26, qs_7, qs_8, kc_1, kn_1, kc_2, kn_2, kc_3, kn_3, kc_4, kn_4, kc_5, kn_5, kc_6, kn_6, kc_7, kn_7, kc_8, kn_8, kc_9, kn_9, kc_10, kn_10, kc_11, kn_11, kc_12, kn_12, kc_13, kn_13, kc_14, kn_14, kc_15, kn_15, kc_16, kc_17, kc_18, kc_19, kc_20, kc_21, kc_22, kc_23, kc_30, kc_32, kc_40, kc_43, kc_45, kc_48, kc_52, kc_56, kc_57, kc_59, kc_60, kc_61, kc_63, kc_64, kc_72, kc_78, kc_97, kc_99, kc_122, kc_126, kc_128, kc_192, kc_200, kc_255, kc_999, kc_1000, kc_9999, kn_9999, kc_10000, kc_12345, kc_65536, kc_252645135, kc_858993459, kc_1103515245, kc_1431655765, kc_2147483647, kc_0, kc_24, kc_28, kc_37, kc_41, kc_42, kc_73, kc_91, kc_95, kc_96, kc_98, kc_100, kc_112, kc_125, kc_150, kc_162, kc_163, kc_168, kc_186, kc_190, kc_250, kc_355, kc_356, kc_404, kc_405, kc_429, kc_573, kc_1002, kc_1100, kc_1891, kc_2200, kc_4719, kc_4869, kc_4881, kc_5148, kc_19741, kc_25433, kc_320403, kc_628412, kc_629093, kc_660401, kc_679843, kc_918640, kc_979410, kc_1178088, kc_6232410, kc_24644941, kc_36238189, kc_38270444, kc_392531318, kc_425693491, kc_1342154595, kc_2147483648, kc_42328242873, kc_891704255789, kc_1722105685577, kc_1858726030364, ct_0, ct_1, ct_2, ct_3, ct_4, ct_5, cf_0, cf_1, cf_2, cf_3, cf_4, cf_5, w_ty6, w_ty7, m_sv, m_z0, m_hd, m_g0, m_gs, m_s0, m_ss, m_ap, m_an, forall_const, true_and, and_true, ne_eq, not_true_eq_false, not_false_eq_true, false_implies, true_implies, implies_true, eq_self, reduceCtorEq, Nat.reduceDiv, Nat.reduceMod, Int.reduceToNat, or_true, true_or, or_false, false_or, or_self, m_it, m_if, m_c1, m_01, m_02, m_03, m_04, m_10, m_12, m_13, m_14, m_20, m_21, m_23, m_24, m_30, m_31, m_32, m_34, m_40, m_41, m_42, m_43, Int.reduceLE, Int.reduceLT, Int.reduceGE, Int.reduceGT, Int.reduceNeg, Int.reduceAdd, Int.reduceSub, Int.reduceMul, Int.reduceEq, Int.reduceNe, Nat.reduceAdd, jun2, ro_0_0, ro_0_1, ro_0_2, ro_0_3, ro_0_4, ro_0_5, ro_0_6, ro_0_7, ro_0_8, ro_0_9, ro_0_10, ro_0_11, ro_0_12, ro_1_0, ro_1_1, ro_2_0, ro_4_0, ro_6_0, ro_6_1, ro_6_2, ro_6_3, ro_6_4, ro_6_5, ro_6_6, ro_6_7, ro_6_8, ro_8_0, ro_10_0, ro_12_0, ro_14_0, ro_16_0, ro_18_0, ro_20_0, ro_22_0, ro_22_1, ro_22_2, ro_23_0, ro_25_0, ro_27_0, ro_29_0, ro_29_1, ro_29_2, ro_29_3, ro_29_4, ro_29_5, ro_29_6, ro_29_7, ro_29_8, ro_31_0, ro_33_0, ro_35_0, ro_37_0, ro_39_0, ro_41_0, ro_43_0, ro_45_0, ro_45_1, ro_45_2, ro_46_0, ro_48_0, ro_50_0, ro_52_0, ro_52_1, ro_52_2, ro_52_3, ro_53_0, ro_55_0, ro_57_0, ro_59_0, ro_61_0, ro_61_1, ro_61_2, ro_61_3, ro_62_0, ro_64_0, ro_66_0, ro_68_0, ro_70_0, ro_70_1, ro_70_2, ro_70_3, ro_70_4, ro_70_5, ro_70_6, ro_70_7, ro_70_8, ro_70_9, ro_71_0, ro_73_0, ro_75_0, ro_77_0, ro_79_0, ro_81_0, ro_83_0, ro_85_0, ro_87_0, ro_89_0, ro_91_0, ro_91_1, ro_91_2, ro_91_3, ro_91_4, ro_91_5, ro_91_6, ro_91_7, ro_91_8, ro_91_9, ro_92_0, ro_94_0, ro_96_0, ro_98_0, ro_100_0, ro_102_0, ro_104_0, ro_106_0, ro_108_0, ro_110_0, ro_112_0, ro_112_1, ro_112_2, ro_112_3, ro_112_4, ro_112_5, ro_112_6, ro_112_7, ro_112_8, ro_112_9, ro_113_0, ro_115_0, ro_117_0, ro_119_0, ro_121_0, ro_123_0, ro_125_0, ro_127_0, ro_129_0, ro_131_0, ro_133_0, ro_133_1, ro_133_2, ro_133_3, ro_133_4, ro_133_5, ro_133_6, ro_133_7, ro_133_8, ro_133_9, ro_134_0, ro_136_0, ro_138_0, ro_140_0, ro_142_0, ro_144_0, ro_146_0, ro_148_0, ro_150_0, ro_152_0, ro_154_0, ro_155_0, ro_157_0, ro_157_1, ro_157_2, ro_157_3, ro_157_4, ro_157_5, ro_157_6, ro_157_7, ro_157_8, ro_157_9, ro_158_0, ro_160_0, ro_162_0, ro_164_0, ro_166_0, ro_168_0, ro_170_0, ro_172_0, ro_174_0, ro_176_0, ro_178_0, ro_180_0, ro_182_1, ro_182_4, ro_182_5, ro_182_6, ro_182_9, ro_182_10, ro_182_11, ro_182_13, ro_182_14, ro_182_15, ro_182_16, ro_182_17, ro_182_20, ro_182_21, ro_182_22, ro_182_23, ro_182_24, ro_182_26, ro_182_27, ro_182_28, lo_3, lo_5, lo_7, lo_9, lo_11, lo_13, lo_15, lo_17, lo_19, lo_21, lo_24, lo_26, lo_28, lo_30, lo_32, lo_34, lo_36, lo_38, lo_40, lo_42, lo_44, lo_47, lo_49, lo_51, lo_54, lo_56, lo_58, lo_60, lo_63, lo_65, lo_67, lo_69, lo_72, lo_74, lo_76, lo_78, lo_80, lo_82, lo_84, lo_86, lo_88, lo_90, lo_93, lo_95, lo_97, lo_99, lo_101, lo_103, lo_105, lo_107, lo_109, lo_111, lo_114, lo_116, lo_118, lo_120, lo_122, lo_124, lo_126, lo_128, lo_130, lo_132, lo_135, lo_137, lo_139, lo_141, lo_143, lo_145, lo_147, lo_149, lo_151, lo_153, lo_156, lo_159, lo_161, lo_163, lo_165, lo_167, lo_169, lo_171, lo_173, lo_175, lo_177, lo_179, lo_181, lo_183, lo_184, lo_185, lo_186, lo_187, lo_188, lo_189, lo_190, lo_191, lo_192, lo_193, lo_194, lo_195, lo_196, lo_197, lo_198, lo_199, lo_200, lo_201, lo_202, lo_203]
    repeat' (first | exact hQ | (refine ⟨?_, ?_⟩) | (intro _))
    all_goals first | exact hQ | (rw [if_pos (by omega)] at hQ; exact hQ) | (rw [if_neg (by omega)] at hQ; exact hQ)
  · exact hQ.elim
theorem m_207 : BodyOK CS1 CS1 207 := fun av h Q hQ => by
  rw [cs1_207] at hQ
  unfold k207 at hQ
  split at hQ
  · rename_i x w
    obtain ⟨rfl, hQ⟩ := hQ
    show pS CS1 bb_207 [182, w] h _
    unfold bb_207
    simp only [qe_1, qe_3, qe_4, qe_5, qe_7, qe_72, qe_10, qe_102, qe_13, qe_14, qe_15, qe_16, qe_17, qe_18, qe_20, qe_22, qe_23, qe_21, qe_24, qe_25, qe_26, qe_27, qe_28, qe_30, qe_31, qe_32, qc_20, qc_22, qc_23, qc_21, qc_24, qc_25, qc_26, qc_27, qc_1, qc_3, qc_4, qc_7, qc_13, qc_28, qc_32, qs_1, qs_2, qs_3, qs_4, qs_5, qs_6, qs_9, qs_10, qs_11, qs_14, qs_15, qs_16, qs_27, qs_17, qs_18, qs_19, qs_20, qs_22, qs_23, qs_28, qs_25, qs_26, qs_7, qs_8, kc_1, kn_1, kc_2, kn_2, kc_3, kn_3, kc_4, kn_4, kc_5, kn_5, kc_6, kn_6, kc_7, kn_7, kc_8, kn_8, kc_9, kn_9, kc_10, kn_10, kc_11, kn_11, kc_12, kn_12, kc_13, kn_13, kc_14, kn_14, kc_15, kn_15, kc_16, kc_17, kc_18, kc_19, kc_20, kc_21, kc_22, kc_23, kc_30, kc_32, kc_40, kc_43, kc_45, kc_48, kc_52, kc_56, kc_57, kc_59, kc_60, kc_61, kc_63, kc_64, kc_72, kc_78, kc_97, kc_99, kc_122, kc_126, kc_128, kc_192, kc_200, kc_255, kc_999, kc_1000, kc_9999, kn_9999, kc_10000, kc_12345, kc_65536, kc_252645135, kc_858993459, kc_1103515245, kc_1431655765, kc_2147483647, kc_0, kc_24, kc_28, kc_37, kc_41, kc_42, kc_73, kc_91, kc_95, kc_96, kc_98, kc_100, kc_112, kc_125, kc_150, kc_162, kc_163, kc_168, kc_186, kc_190, kc_250, kc_355, kc_356, kc_404, kc_405, kc_429, kc_573, kc_1002, kc_1100, kc_1891, kc_2200, kc_4719, kc_4869, kc_4881, kc_5148, kc_19741, kc_25433, kc_320403, kc_628412, kc_629093, kc_660401, kc_679843, kc_918640, kc_979410, kc_1178088, kc_6232410, kc_24644941, kc_36238189, kc_38270444, kc_392531318, kc_425693491, kc_1342154595, kc_2147483648, kc_42328242873, kc_891704255789, kc_1722105685577, kc_1858726030364, ct_0, ct_1, ct_2, ct_3, ct_4, ct_5, cf_0, cf_1, cf_2, cf_3, cf_4, cf_5, w_ty6, w_ty7, m_sv, m_z0, m_hd, m_g0, m_gs, m_s0, m_ss, m_ap, m_an, forall_const, true_and, and_true, ne_eq, not_true_eq_false, not_false_eq_true, false_implies, true_implies, implies_true, eq_self, reduceCtorEq, Nat.reduceDiv, Nat.reduceMod, Int.reduceToNat, or_true, true_or, or_false, false_or, or_self, m_it, m_if, m_c1, m_01, m_02, m_03, m_04, m_10, m_12, m_13, m_14, m_20, m_21, m_23, m_24, m_30, m_31, m_32, m_34, m_40, m_41, m_42, m_43, Int.reduceLE, Int.reduceLT, Int.reduceGE, Int.reduceGT, Int.reduceNeg, Int.reduceAdd, Int.reduceSub, Int.reduceMul, Int.reduceEq, Int.reduceNe, Nat.reduceAdd, jun2, ro_0_0, ro_0_1, ro_0_2, ro_0_3, ro_0_4, ro_0_5, ro_0_6, ro_0_7, ro_0_8, ro_0_9, ro_0_10, ro_0_11, ro_0_12, ro_1_0, ro_1_1, ro_2_0, ro_4_0, ro_6_0, ro_6_1, ro_6_2, ro_6_3, ro_6_4, ro_6_5, ro_6_6, ro_6_7, ro_6_8, ro_8_0, ro_10_0, ro_12_0, ro_14_0, ro_16_0, ro_18_0, ro_20_0, ro_22_0, ro_22_1, ro_22_2, ro_23_0, ro_25_0, ro_27_0, ro_29_0, ro_29_1, ro_29_2, ro_29_3, ro_29_4, ro_29_5, ro_29_6, ro_29_7, ro_29_8, ro_31_0, ro_33_0, ro_35_0, ro_37_0, ro_39_0, ro_41_0, ro_43_0, ro_45_0, ro_45_1, ro_45_2, ro_46_0, ro_48_0, ro_50_0, ro_52_0, ro_52_1, ro_52_2, ro_52_3, ro_53_0, ro_55_0, ro_57_0, ro_59_0, ro_61_0, ro_61_1, ro_61_2, ro_61_3, ro_62_0, ro_64_0, ro_66_0, ro_68_0, ro_70_0, ro_70_1, ro_70_2, ro_70_3, ro_70_4, ro_70_5, ro_70_6, ro_70_7, ro_70_8, ro_70_9, ro_71_0, ro_73_0, ro_75_0, ro_77_0, ro_79_0, ro_81_0, ro_83_0, ro_85_0, ro_87_0, ro_89_0, ro_91_0, ro_91_1, ro_91_2, ro_91_3, ro_91_4, ro_91_5, ro_91_6, ro_91_7, ro_91_8, ro_91_9, ro_92_0, ro_94_0, ro_96_0, ro_98_0, ro_100_0, ro_102_0, ro_104_0, ro_106_0, ro_108_0, ro_110_0, ro_112_0, ro_112_1, ro_112_2, ro_112_3, ro_112_4, ro_112_5, ro_112_6, ro_112_7, ro_112_8, ro_112_9, ro_113_0, ro_115_0, ro_117_0, ro_119_0, ro_121_0, ro_123_0, ro_125_0, ro_127_0, ro_129_0, ro_131_0, ro_133_0, ro_133_1, ro_133_2, ro_133_3, ro_133_4, ro_133_5, ro_133_6, ro_133_7, ro_133_8, ro_133_9, ro_134_0, ro_136_0, ro_138_0, ro_140_0, ro_142_0, ro_144_0, ro_146_0, ro_148_0, ro_150_0, ro_152_0, ro_154_0, ro_155_0, ro_157_0, ro_157_1, ro_157_2, ro_157_3, ro_157_4, ro_157_5, ro_157_6, ro_157_7, ro_157_8, ro_157_9, ro_158_0, ro_160_0, ro_162_0, ro_164_0, ro_166_0, ro_168_0, ro_170_0, ro_172_0, ro_174_0, ro_176_0, ro_178_0, ro_180_0, ro_182_1, ro_182_4, ro_182_5, ro_182_6, ro_182_9, ro_182_10, ro_182_11, ro_182_13, ro_182_14, ro_182_15, ro_182_16, ro_182_17, ro_182_20, ro_182_21, ro_182_22, ro_182_23, ro_182_24, ro_182_26, ro_182_27, ro_182_28, lo_3, lo_5, lo_7, lo_9, lo_11, lo_13, lo_15, lo_17, lo_19, lo_21, lo_24, lo_26, lo_28, lo_30, lo_32, lo_34, lo_36, lo_38, lo_40, lo_42, lo_44, lo_47, lo_49, lo_51, lo_54, lo_56, lo_58, lo_60, lo_63, lo_65, lo_67, lo_69, lo_72, lo_74, lo_76, lo_78, lo_80, lo_82, lo_84, lo_86, lo_88, lo_90, lo_93, lo_95, lo_97, lo_99, lo_101, lo_103, lo_105, lo_107, lo_109, lo_111, lo_114, lo_116, lo_118, lo_120, lo_122, lo_124, lo_126, lo_128, lo_130, lo_132, lo_135, lo_137, lo_139, lo_141, lo_143, lo_145, lo_147, lo_149, lo_151, lo_153, lo_156, lo_159, lo_161, lo_163, lo_165, lo_167, lo_169, lo_171, lo_173, lo_175, lo_177, lo_179, lo_181, lo_183, lo_184, lo_185, lo_186, lo_187, lo_188, lo_189, lo_190, lo_191, lo_192, lo_193, lo_194, lo_195, lo_196, lo_197, lo_198, lo_199, lo_200, lo_201, lo_202, lo_203]
    repeat' (first | exact hQ | (refine ⟨?_, ?_⟩) | (intro _))
    all_goals first | exact hQ | (rw [if_pos (by omega)] at hQ; exact hQ) | (rw [if_neg (by omega)] at hQ; exact hQ)
  · exact hQ.elim
theorem snd_1 {xs : Nat → Int} {L K : Nat} : ∀ n, SndC CS1 (evF xs L g_ck K g_cW g_M n) := snd_all snd_none (fun f av h Q hQ => by
  unfold CS1 at hQ
  split at hQ
  · exact Or.inr m_54
  · exact Or.inr m_55
  · exact Or.inr m_68
  · exact Or.inr m_69
  · exact Or.inr m_70
  · exact Or.inr m_71
  · exact Or.inr m_72
  · exact Or.inr m_73
  · exact Or.inr m_74
  · exact Or.inr m_75
  · exact Or.inr m_186
  · exact Or.inr m_187
  · exact Or.inr m_188
  · exact Or.inr m_189
  · exact Or.inr m_191
  · exact Or.inr m_192
  · exact Or.inr m_193
  · exact Or.inr m_198
  · exact Or.inr m_207
  · exact Or.inl hQ)
end
section
/-! ===== what a grid is_w told_w by, over cut_w signs: sort S, place_w P, value_w V, words W ===== -/
/-- slots_w, feeder, classes (name_w, loss, profile), suppliers, meters (name_w, kind, class, supplier), law_w -/
abbrev DD : Type := Int × Option (List Int) × List (Int × Int × List Int) × List Int × List (Int × Int × Int × Int) × Option (List Int)
abbrev XZ (α : Type) : Type := Except Int α
def eB {α β : Type} (x : XZ α) (f : α → XZ β) : XZ β := match x with
  | .error e => .error e
  | .ok a => f a
/-- the last_w of some that is_w so -/
def lst (p : Nat → Bool) : Nat → Int
  | 0 => -1
  | k + 1 => if p k = true then (k : Int) else lst p k
section SPEC
variable (S P V W : Nat → Int)
def er (c : Int) (i : Nat) : Int := c + 16 * P i
abbrev sWd (w i : Nat) : Prop := S i = 1 ∧ V i = W w
abbrev sSn (c : Int) (i : Nat) : Prop := S i = 3 ∧ V i = c
def sNum (lo_w hi_w : Int) (i : Nat) : XZ (Int × Nat) := if S i ≠ 2 then .error (er P 1 i) else if V i < lo_w ∨ hi_w < V i then .error (er P 4 i) else .ok (V i, i + 1)
def sSgn (c : Int) (i : Nat) : XZ Nat := if sSn S V c i then .ok (i + 1) else .error (er P 1 i)
def sWrd (w i : Nat) : XZ Nat := if sWd S V W w i then .ok (i + 1) else .error (er P 1 i)
/-- which of some words stands here_w -/
def wHere (a n i : Nat) : Int := lst (fun k => decide (sWd S V W (a + k) i)) n
abbrev isNm (i : Nat) : Prop := S i = 1 ∧ wHere S V W 0 20 i < 0
/-- which of some names_w -/
def nmAt (l : List Int) (v : Int) : Int := lst (fun k => decide (l[k]? = some v)) l.length
def sTold (l : List Int) (i : Nat) : XZ (Int × Nat) := if ¬ isNm S V W i then .error (er P 1 i) else if nmAt l (V i) < 0 then .error (er P 2 i) else .ok (nmAt l (V i), i + 1)
def sOne (a n i : Nat) : XZ (Int × Nat) := if wHere S V W a n i < 0 then .error (er P 1 i) else .ok (wHere S V W a n i, i + 1)
def sRow (hi_w : Int) : Nat → List Int → Nat → XZ (List Int × Nat)
  | 0, l, i => .ok (l, i)
  | k + 1, l, i => if S i ≠ 2 then (if l = [] then .error (er P 1 i) else .ok (l, i)) else if V i < 0 ∨ hi_w < V i then .error (er P 4 i) else if l.length = 12 then .error (er P 5 i) else sRow hi_w k (l ++ [V i]) (i + 1)
def tolds (D : DD) : List Int := D.2.2.1.map (·.1) ++ (D.2.2.2.1 ++ D.2.2.2.2.1.map (·.1))
/-- a new_w name_w -/
def sNew (D : DD) (i : Nat) : XZ (Int × Nat) := if ¬ isNm S V W i then .error (er P 1 i) else if V i ∈ tolds D then .error (er P 3 i) else .ok (V i, i + 1)
def sClass (D : DD) (i : Nat) : XZ (DD × Nat) := if D.2.2.1.length = 4 then .error (er P 5 i) else
  eB (sNew S P V W D (i + 1)) fun a => eB (sWrd S P V W 3 a.2) fun j => eB (sNum S P V 0 999 j) fun b => eB (sWrd S P V W 4 b.2) fun j2_w => eB (sRow S P V 99 14 [] j2_w) fun r =>
    .ok ((D.1, D.2.1, D.2.2.1 ++ [(a.1, b.1, r.1)], D.2.2.2), r.2)
def sSup (D : DD) (i : Nat) : XZ (DD × Nat) := if D.2.2.2.1.length = 4 then .error (er P 5 i) else
  eB (sNew S P V W D (i + 1)) fun a => .ok ((D.1, D.2.1, D.2.2.1, D.2.2.2.1 ++ [a.1], D.2.2.2.2), a.2)
def sMeter (D : DD) (i : Nat) : XZ (DD × Nat) := if D.2.2.2.2.1.length = 6 then .error (er P 5 i) else
  eB (sNew S P V W D (i + 1)) fun a => eB (sOne S P V W 13 4 a.2) fun k => eB (sWrd S P V W 2 k.2) fun j => eB (sTold S P V W (D.2.2.1.map (·.1)) j) fun c => eB (sWrd S P V W 7 c.2) fun j2_w => eB (sTold S P V W D.2.2.2.1 j2_w) fun s =>
    .ok ((D.1, D.2.1, D.2.2.1, D.2.2.2.1, D.2.2.2.2.1 ++ [(a.1, k.1, c.1, s.1)], D.2.2.2.2.2), s.2)
def sSlots (D : DD) (i : Nat) : XZ (DD × Nat) := if D.1 ≠ 0 then .error (er P 3 i) else
  eB (sNum S P V 1 12 (i + 1)) fun a => .ok ((a.1, D.2), a.2)
def sFeed (D : DD) (i : Nat) : XZ (DD × Nat) := if D.2.1 ≠ none then .error (er P 3 i) else
  eB (sRow S P V 9999 14 [] (i + 1)) fun r => .ok ((D.1, some r.1, D.2.2), r.2)
/-- parts_w joined by signs, from the left -/
def sLoop (sub : Nat → XZ (List Int × Nat)) (op_w : Nat → Option Int) : Nat → List Int → Nat → XZ (List Int × Nat)
  | 0, c, i => .ok (c, i)
  | k + 1, c, i => match op_w i with
    | none => .ok (c, i)
    | some o => eB (sub (i + 1)) fun r => sLoop sub op_w k (c ++ (r.1 ++ [o])) r.2
def opT (i : Nat) : Option Int := if sSn S V 42 i then some 6 else none
def opA (i : Nat) : Option Int := if sSn S V 43 i then some 4 else if sSn S V 45 i then some 5 else none
def opC (i : Nat) : Option Int := if sSn S V 60 i then some 7 else if sSn S V 61 i then some 8 else none
def opL (i : Nat) : Option Int := if sWd S V W 18 i then some 9 else if sWd S V W 19 i then some 10 else none
def sProd (part : Nat → XZ (List Int × Nat)) (i : Nat) : XZ (List Int × Nat) := eB (part i) fun r => sLoop part (opT S V) 1102 r.1 r.2
def sSums (part : Nat → XZ (List Int × Nat)) (i : Nat) : XZ (List Int × Nat) := eB (sProd S V part i) fun r => sLoop (sProd S V part) (opA S V) 1102 r.1 r.2
def sTest (part : Nat → XZ (List Int × Nat)) (i : Nat) : XZ (List Int × Nat) := eB (sSums S V part i) fun r => match opC S V r.2 with
  | none => .ok r
  | some o => eB (sSums S V part (r.2 + 1)) fun q => .ok (r.1 ++ (q.1 ++ [o]), q.2)
def sAll (part : Nat → XZ (List Int × Nat)) (i : Nat) : XZ (List Int × Nat) := eB (sTest S V part i) fun r => sLoop (sTest S V part) (opL S V W) 1102 r.1 r.2
def fct (i : Nat) : Int := wHere S V W 20 4 i
abbrev isPt (i : Nat) : Prop := S i = 2 ∨ 0 ≤ fct S V W i ∨ sSn S V 40 i ∨ sWd S V W 17 i
def sPart (allN partN : Nat → XZ (List Int × Nat)) (i : Nat) : XZ (List Int × Nat) := if ¬ isPt S V W i then .error (er P 1 i) else
  if sWd S V W 17 i then eB (partN (i + 1)) fun r => .ok (r.1 ++ [3], r.2)
  else if sSn S V 40 i then eB (allN (i + 1)) fun r => eB (sSgn S P V 41 r.2) fun j => .ok (r.1, j)
  else .ok ([if S i = 2 then 1 + 16 * V i else 2 + 16 * fct S V W i], i + 1)
def sPart0 (i : Nat) : XZ (List Int × Nat) := if ¬ isPt S V W i then .error (er P 1 i) else .error (er P 5 i)
/-- all_w of it, a part, at the depth 5 - k -/
def sD : Nat → (Nat → XZ (List Int × Nat)) × (Nat → XZ (List Int × Nat))
  | 0 => (sAll S V W (sPart0 S P V W), sPart0 S P V W)
  | k + 1 => (sAll S V W (sPart S P V W (sD k).1 (sD k).2), sPart S P V W (sD k).1 (sD k).2)
def sLaw (D : DD) (i : Nat) : XZ (DD × Nat) := if D.2.2.2.2.2 ≠ none then .error (er P 3 i) else
  eB ((sD S P V W 5).1 (i + 1)) fun r => .ok ((D.1, D.2.1, D.2.2.1, D.2.2.2.1, D.2.2.2.2.1, some r.1), r.2)
def sLine (D : DD) (i : Nat) : XZ (DD × Nat) :=
  if sWd S V W 2 i then sClass S P V W D i
  else if sWd S V W 5 i then sSup S P V W D i
  else if sWd S V W 6 i then sMeter S P V W D i
  else if sWd S V W 0 i then sSlots S P V D i
  else if sWd S V W 1 i then sFeed S P V D i
  else if sWd S V W 8 i then sLaw S P V W D i
  else .error (er P 1 i)
def sGrid : Nat → DD → Nat → XZ DD
  | 0, D, _ => .ok D
  | k + 1, D, i => if S i = 0 then .ok D else eB (sLine S P V W D i) fun r => eB (sSgn S P V 59 r.2) fun j => sGrid k r.1 j
end SPEC
def DD0 : DD := (0, none, [], [], [], none)
end
section
/-! ===== contracts: the reference's looks_w at a sign ===== -/
theorem jl_0 : j32 0 = 0 := id rfl
theorem jl_1 : j32 1 = 1 := id rfl
theorem jl_2 : j32 2 = 2 := id rfl
theorem jl_3 : j32 3 = 3 := id rfl
theorem jl_4 : j32 4 = 4 := id rfl
theorem jl_5 : j32 5 = 5 := id rfl
theorem jl_6 : j32 6 = 6 := id rfl
theorem jl_7 : j32 7 = 7 := id rfl
theorem jl_8 : j32 8 = 8 := id rfl
theorem jl_9 : j32 9 = 9 := id rfl
theorem jl_10 : j32 10 = 10 := id rfl
theorem jl_11 : j32 11 = 11 := id rfl
theorem jl_12 : j32 12 = 12 := id rfl
theorem jl_13 : j32 13 = 13 := id rfl
theorem jl_14 : j32 14 = 14 := id rfl
theorem jl_15 : j32 15 = 15 := id rfl
theorem jl_16 : j32 16 = 16 := id rfl
theorem jl_17 : j32 17 = 17 := id rfl
theorem jl_18 : j32 18 = 18 := id rfl
theorem jl_19 : j32 19 = 19 := id rfl
theorem jl_20 : j32 20 = 20 := id rfl
theorem jl_21 : j32 21 = 21 := id rfl
theorem jl_22 : j32 22 = 22 := id rfl
theorem jl_23 : j32 23 = 23 := id rfl
theorem jl_24 : j32 24 = 24 := id rfl
theorem jl_25 : j32 25 = 25 := id rfl
theorem jl_26 : j32 26 = 26 := id rfl
theorem jl_27 : j32 27 = 27 := id rfl
theorem jl_28 : j32 28 = 28 := id rfl
theorem jl_29 : j32 29 = 29 := id rfl
theorem jl_30 : j32 30 = 30 := id rfl
theorem jl_31 : j32 31 = 31 := id rfl
theorem jl_32 : j32 32 = 32 := id rfl
theorem jl_33 : j32 33 = 33 := id rfl
theorem jl_34 : j32 34 = 34 := id rfl
theorem jl_35 : j32 35 = 35 := id rfl
theorem jl_36 : j32 36 = 36 := id rfl
theorem jl_37 : j32 37 = 37 := id rfl
theorem jl_38 : j32 38 = 38 := id rfl
theorem jl_39 : j32 39 = 39 := id rfl
theorem jl_40 : j32 40 = 40 := id rfl
theorem jl_95 : j32 95 = 95 := id rfl
theorem jl_96 : j32 96 = 96 := id rfl
theorem jl_97 : j32 97 = 97 := id rfl
theorem jl_98 : j32 98 = 98 := id rfl
theorem jl_99 : j32 99 = 99 := id rfl
theorem jl_100 : j32 100 = 100 := id rfl
theorem jl_101 : j32 101 = 101 := id rfl
theorem jl_102 : j32 102 = 102 := id rfl
theorem jl_103 : j32 103 = 103 := id rfl
theorem jl_104 : j32 104 = 104 := id rfl
theorem jl_105 : j32 105 = 105 := id rfl
theorem jl_106 : j32 106 = 106 := id rfl
theorem jl_107 : j32 107 = 107 := id rfl
theorem jl_108 : j32 108 = 108 := id rfl
theorem jl_109 : j32 109 = 109 := id rfl
theorem jl_110 : j32 110 = 110 := id rfl
theorem jl_111 : j32 111 = 111 := id rfl
theorem jl_112 : j32 112 = 112 := id rfl
theorem jl_113 : j32 113 = 113 := id rfl
theorem jl_114 : j32 114 = 114 := id rfl
theorem jl_186 : j32 186 = 186 := id rfl
theorem jl_1100 : j32 1100 = 1100 := id rfl
theorem ji0 {x y : Int} : j_iop 0 x y = j32 (x + y) := id rfl
theorem ji1 {x y : Int} : j_iop 1 x y = j32 (x - y) := id rfl
theorem ji2 {x y : Int} : j_iop 2 x y = j32 (x * y) := id rfl
theorem jp_e1 {p : Prop} [Decidable p] : (jp p = 1) = p := propext ⟨fun a => Decidable.of_not_not fun b => absurd ((if_neg b).symm.trans a) (by decide), fun a => if_pos a⟩
def k195 : KT := fun av h Q => match av with
  | [x, c] => x = 182 ∧ Q 1 [jp (h 182 8 = 0 ∧ h 184 (h 182 7).toNat = 3 ∧ h 186 (h 182 7).toNat = c)] (j_up h 182 7 (j32 (h 182 7 + jp (h 182 8 = 0 ∧ h 184 (h 182 7).toNat = 3 ∧ h 186 (h 182 7).toNat = c))))
  | _ => False
def k196 : KT := fun av h Q => match av with
  | [x, w] => x = 182 ∧ Q 1 [jp (h 182 8 = 0 ∧ h 184 (h 182 7).toNat = 1 ∧ h 186 (h 182 7).toNat = h 187 w.toNat)] (j_up h 182 7 (j32 (h 182 7 + jp (h 182 8 = 0 ∧ h 184 (h 182 7).toNat = 1 ∧ h 186 (h 182 7).toNat = h 187 w.toNat))))
  | _ => False
def k201 : KT := fun av h Q => match av with
  | [x, a, n] => x = 182 ∧ (0 ≤ a ∧ a ≤ 1000 ∧ 0 ≤ n ∧ n ≤ 1000) ∧ Q 1 [if h 182 8 = 0 then wHere (h 184) (h 186) (h 187) a.toNat n.toNat (h 182 7).toNat else -1] h
  | _ => False
def k203 : KT := fun av h Q => match av with
  | [x] => x = 182 ∧ Q 1 [jp (h 182 8 = 0 ∧ isNm (h 184) (h 186) (h 187) (h 182 7).toNat)] h
  | _ => False
def k204 : KT := fun av h Q => match av with
  | [x, a, n] => x = 182 ∧ ∃ l : List Int, n = (l.length : Int) ∧ 0 ≤ a ∧ a ≤ 1000 ∧ l.length ≤ 1000 ∧ (∀ k v, l[k]? = some v → h 190 (a.toNat + k) = v) ∧ Q 1 [nmAt l (h 186 (h 182 7).toNat)] h
  | _ => False
section KK2
variable {h : XH} {Q : Nat → List Int → XH → Prop} {a n c w : Int}
theorem kk_195 : k195 [182, c] h Q = Q 1 [jp (h 182 8 = 0 ∧ h 184 (h 182 7).toNat = 3 ∧ h 186 (h 182 7).toNat = c)] (j_up h 182 7 (j32 (h 182 7 + jp (h 182 8 = 0 ∧ h 184 (h 182 7).toNat = 3 ∧ h 186 (h 182 7).toNat = c)))) := propext ⟨fun a => a.2, fun a => ⟨rfl, a⟩⟩
theorem kk_196 : k196 [182, w] h Q = Q 1 [jp (h 182 8 = 0 ∧ h 184 (h 182 7).toNat = 1 ∧ h 186 (h 182 7).toNat = h 187 w.toNat)] (j_up h 182 7 (j32 (h 182 7 + jp (h 182 8 = 0 ∧ h 184 (h 182 7).toNat = 1 ∧ h 186 (h 182 7).toNat = h 187 w.toNat)))) := propext ⟨fun a => a.2, fun a => ⟨rfl, a⟩⟩
theorem kk_201 : k201 [182, a, n] h Q = ((0 ≤ a ∧ a ≤ 1000 ∧ 0 ≤ n ∧ n ≤ 1000) ∧ Q 1 [if h 182 8 = 0 then wHere (h 184) (h 186) (h 187) a.toNat n.toNat (h 182 7).toNat else -1] h) := propext ⟨fun a => a.2, fun a => ⟨rfl, a⟩⟩
theorem kk_203 : k203 [182] h Q = Q 1 [jp (h 182 8 = 0 ∧ isNm (h 184) (h 186) (h 187) (h 182 7).toNat)] h := propext ⟨fun a => a.2, fun a => ⟨rfl, a⟩⟩
theorem kk_204 : k204 [182, a, n] h Q = ∃ l : List Int, n = (l.length : Int) ∧ 0 ≤ a ∧ a ≤ 1000 ∧ l.length ≤ 1000 ∧ (∀ k v, l[k]? = some v → h 190 (a.toNat + k) = v) ∧ Q 1 [nmAt l (h 186 (h 182 7).toNat)] h := propext ⟨fun a => a.2, fun a => ⟨rfl, a⟩⟩
end KK2
def CS2 : CSt := fun f => match f with
  | 195 => k195
  | 196 => k196
  | 201 => k201
  | 203 => k203
  | 204 => k204
  | _ => CS1 f
theorem cs2_192 {av : List Int} {h : XH} {Q : Nat → List Int → XH → Prop} : CS2 192 av h Q = k192 av h Q := id rfl
theorem cs2_193 {av : List Int} {h : XH} {Q : Nat → List Int → XH → Prop} : CS2 193 av h Q = k193 av h Q := id rfl
theorem cs2_195 {av : List Int} {h : XH} {Q : Nat → List Int → XH → Prop} : CS2 195 av h Q = k195 av h Q := id rfl
theorem cs2_196 {av : List Int} {h : XH} {Q : Nat → List Int → XH → Prop} : CS2 196 av h Q = k196 av h Q := id rfl
theorem cs2_201 {av : List Int} {h : XH} {Q : Nat → List Int → XH → Prop} : CS2 201 av h Q = k201 av h Q := id rfl
theorem cs2_203 {av : List Int} {h : XH} {Q : Nat → List Int → XH → Prop} : CS2 203 av h Q = k203 av h Q := id rfl
theorem cs2_204 {av : List Int} {h : XH} {Q : Nat → List Int → XH → Prop} : CS2 204 av h Q = k204 av h Q := id rfl
theorem lst_lt {p : Nat → Bool} : ∀ n, lst p n < (n : Int)
  | 0 => by
    show (-1 : Int) < 0
    omega
  | n + 1 => by
    unfold lst
    have := lst_lt (p := p) n
    split <;> omega
theorem lst_ge {p : Nat → Bool} : ∀ n, -1 ≤ lst p n
  | 0 => Int.le_refl _
  | n + 1 => by
    unfold lst
    have := lst_ge (p := p) n
    split <;> omega
theorem lst_no {p : Nat → Bool} (hp : ∀ k, p k = false) : ∀ n, lst p n = -1
  | 0 => rfl
  | n + 1 => by
    unfold lst
    rw [hp n]
    exact lst_no hp n
theorem m_195 : BodyOK CS2 CS2 195 := fun av h Q hQ => by
  rw [cs2_195] at hQ
  unfold k195 at hQ
  split at hQ
  · rename_i x c
    obtain ⟨rfl, hQ⟩ := hQ
    show pS CS2 bb_195 [182, c, 0] h _
    unfold bb_195
    simp only [qe_1, qe_3, qe_4, qe_5, qe_7, qe_72, qe_10, qe_102, qe_13, qe_14, qe_15, qe_16, qe_17, qe_18, qe_20, qe_22, qe_23, qe_21, qe_24, qe_25, qe_26, qe_27, qe_28, qe_30, qe_31, qe_32, qc_20, qc_22, qc_23, qc_21, qc_24, qc_25, qc_26, qc_27, qc_1, qc_3, qc_4, qc_7, qc_13, qc_28, qc_32, qs_1, qs_2, qs_3, qs_4, qs_5, qs_6, qs_9, qs_10, qs_11, qs_14, qs_15, qs_16, qs_27, qs_17, qs_18, qs_19, qs_20, qs_22, qs_23, qs_28, qs_25, qs_26, qs_7, qs_8, kc_1, kn_1, kc_2, kn_2, kc_3, kn_3, kc_4, kn_4, kc_5, kn_5, kc_6, kn_6, kc_7, kn_7, kc_8, kn_8, kc_9, kn_9, kc_10, kn_10, kc_11, kn_11, kc_12, kn_12, kc_13, kn_13, kc_14, kn_14, kc_15, kn_15, kc_16, kc_17, kc_18, kc_19, kc_20, kc_21, kc_22, kc_23, kc_30, kc_32, kc_40, kc_43, kc_45, kc_48, kc_52, kc_56, kc_57, kc_59, kc_60, kc_61, kc_63, kc_64, kc_72, kc_78, kc_97, kc_99, kc_122, kc_126, kc_128, kc_192, kc_200, kc_255, kc_999, kc_1000, kc_9999, kn_9999, kc_10000, kc_12345, kc_65536, kc_252645135, kc_858993459, kc_1103515245, kc_1431655765, kc_2147483647, kc_0, kc_24, kc_28, kc_37, kc_41, kc_42, kc_73, kc_91, kc_95, kc_96, kc_98, kc_100, kc_112, kc_125, kc_150, kc_162, kc_163, kc_168, kc_186, kc_190, kc_250, kc_355, kc_356, kc_404, kc_405, kc_429, kc_573, kc_1002, kc_1100, kc_1891, kc_2200, kc_4719, kc_4869, kc_4881, kc_5148, kc_19741, kc_25433, kc_320403, kc_628412, kc_629093, kc_660401, kc_679843, kc_918640, kc_979410, kc_1178088, kc_6232410, kc_24644941, kc_36238189, kc_38270444, kc_392531318, kc_425693491, kc_1342154595, kc_2147483648, kc_42328242873, kc_891704255789, kc_1722105685577, kc_1858726030364, ct_0, ct_1, ct_2, ct_3, ct_4, ct_5, cf_0, cf_1, cf_2, cf_3, cf_4, cf_5, w_ty6, w_ty7, m_sv, m_z0, m_hd, m_g0, m_gs, m_s0, m_ss, m_ap, m_an, forall_const, true_and, and_true, ne_eq, not_true_eq_false, not_false_eq_true, false_implies, true_implies, implies_true, eq_self, reduceCtorEq, Nat.reduceDiv, Nat.reduceMod, Int.reduceToNat, or_true, true_or, or_false, false_or, or_self, m_it, m_if, m_c1, m_01, m_02, m_03, m_04, m_10, m_12, m_13, m_14, m_20, m_21, m_23, m_24, m_30, m_31, m_32, m_34, m_40, m_41, m_42, m_43, Int.reduceLE, Int.reduceLT, Int.reduceGE, Int.reduceGT, Int.reduceNeg, Int.reduceAdd, Int.reduceSub, Int.reduceMul, Int.reduceEq, Int.reduceNe, Nat.reduceAdd, jun2, ro_0_0, ro_0_1, ro_0_2, ro_0_3, ro_0_4, ro_0_5, ro_0_6, ro_0_7, ro_0_8, ro_0_9, ro_0_10, ro_0_11, ro_0_12, ro_1_0, ro_1_1, ro_2_0, ro_4_0, ro_6_0, ro_6_1, ro_6_2, ro_6_3, ro_6_4, ro_6_5, ro_6_6, ro_6_7, ro_6_8, ro_8_0, ro_10_0, ro_12_0, ro_14_0, ro_16_0, ro_18_0, ro_20_0, ro_22_0, ro_22_1, ro_22_2, ro_23_0, ro_25_0, ro_27_0, ro_29_0, ro_29_1, ro_29_2, ro_29_3, ro_29_4, ro_29_5, ro_29_6, ro_29_7, ro_29_8, ro_31_0, ro_33_0, ro_35_0, ro_37_0, ro_39_0, ro_41_0, ro_43_0, ro_45_0, ro_45_1, ro_45_2, ro_46_0, ro_48_0, ro_50_0, ro_52_0, ro_52_1, ro_52_2, ro_52_3, ro_53_0, ro_55_0, ro_57_0, ro_59_0, ro_61_0, ro_61_1, ro_61_2, ro_61_3, ro_62_0, ro_64_0, ro_66_0, ro_68_0, ro_70_0, ro_70_1, ro_70_2, ro_70_3, ro_70_4, ro_70_5, ro_70_6, ro_70_7, ro_70_8, ro_70_9, ro_71_0, ro_73_0, ro_75_0, ro_77_0, ro_79_0, ro_81_0, ro_83_0, ro_85_0, ro_87_0, ro_89_0, ro_91_0, ro_91_1, ro_91_2, ro_91_3, ro_91_4, ro_91_5, ro_91_6, ro_91_7, ro_91_8, ro_91_9, ro_92_0, ro_94_0, ro_96_0, ro_98_0, ro_100_0, ro_102_0, ro_104_0, ro_106_0, ro_108_0, ro_110_0, ro_112_0, ro_112_1, ro_112_2, ro_112_3, ro_112_4, ro_112_5, ro_112_6, ro_112_7, ro_112_8, ro_112_9, ro_113_0, ro_115_0, ro_117_0, ro_119_0, ro_121_0, ro_123_0, ro_125_0, ro_127_0, ro_129_0, ro_131_0, ro_133_0, ro_133_1, ro_133_2, ro_133_3, ro_133_4, ro_133_5, ro_133_6, ro_133_7, ro_133_8, ro_133_9, ro_134_0, ro_136_0, ro_138_0, ro_140_0, ro_142_0, ro_144_0, ro_146_0, ro_148_0, ro_150_0, ro_152_0, ro_154_0, ro_155_0, ro_157_0, ro_157_1, ro_157_2, ro_157_3, ro_157_4, ro_157_5, ro_157_6, ro_157_7, ro_157_8, ro_157_9, ro_158_0, ro_160_0, ro_162_0, ro_164_0, ro_166_0, ro_168_0, ro_170_0, ro_172_0, ro_174_0, ro_176_0, ro_178_0, ro_180_0, ro_182_1, ro_182_4, ro_182_5, ro_182_6, ro_182_9, ro_182_10, ro_182_11, ro_182_13, ro_182_14, ro_182_15, ro_182_16, ro_182_17, ro_182_20, ro_182_21, ro_182_22, ro_182_23, ro_182_24, ro_182_26, ro_182_27, ro_182_28, lo_3, lo_5, lo_7, lo_9, lo_11, lo_13, lo_15, lo_17, lo_19, lo_21, lo_24, lo_26, lo_28, lo_30, lo_32, lo_34, lo_36, lo_38, lo_40, lo_42, lo_44, lo_47, lo_49, lo_51, lo_54, lo_56, lo_58, lo_60, lo_63, lo_65, lo_67, lo_69, lo_72, lo_74, lo_76, lo_78, lo_80, lo_82, lo_84, lo_86, lo_88, lo_90, lo_93, lo_95, lo_97, lo_99, lo_101, lo_103, lo_105, lo_107, lo_109, lo_111, lo_114, lo_116, lo_118, lo_120, lo_122, lo_124, lo_126, lo_128, lo_130, lo_132, lo_135, lo_137, lo_139, lo_141, lo_143, lo_145, lo_147, lo_149, lo_151, lo_153, lo_156, lo_159, lo_161, lo_163, lo_165, lo_167, lo_169, lo_171, lo_173, lo_175, lo_177, lo_179, lo_181, lo_183, lo_184, lo_185, lo_186, lo_187, lo_188, lo_189, lo_190, lo_191, lo_192, lo_193, lo_194, lo_195, lo_196, lo_197, lo_198, lo_199, lo_200, lo_201, lo_202, lo_203, jp_nn, jp_eq, jp_e1, Classical.not_not, ji0, ji1, ji2, cs2_192, kk_192]
    by_cases z : h 182 8 = 0 ∧ h 184 (h 182 7).toNat = 3 ∧ h 186 (h 182 7).toNat = c
    · rw [jp_t z] at hQ ⊢
      exact ⟨fun _ _ => hQ, fun y => absurd z y⟩
    · rw [jp_f z] at hQ ⊢
      exact ⟨fun y => absurd y z, fun _ _ => hQ⟩
  · exact hQ.elim
theorem m_196 : BodyOK CS2 CS2 196 := fun av h Q hQ => by
  rw [cs2_196] at hQ
  unfold k196 at hQ
  split at hQ
  · rename_i x c
    obtain ⟨rfl, hQ⟩ := hQ
    show pS CS2 bb_196 [182, c, 0] h _
    unfold bb_196
    simp only [qe_1, qe_3, qe_4, qe_5, qe_7, qe_72, qe_10, qe_102, qe_13, qe_14, qe_15, qe_16, qe_17, qe_18, qe_20, qe_22, qe_23, qe_21, qe_24, qe_25, qe_26, qe_27, qe_28, qe_30, qe_31, qe_32, qc_20, qc_22, qc_23, qc_21, qc_24, qc_25, qc_26, qc_27, qc_1, qc_3, qc_4, qc_7, qc_13, qc_28, qc_32, qs_1, qs_2, qs_3, qs_4, qs_5, qs_6, qs_9, qs_10, qs_11, qs_14, qs_15, qs_16, qs_27, qs_17, qs_18, qs_19, qs_20, qs_22, qs_23, qs_28, qs_25, qs_26, qs_7, qs_8, kc_1, kn_1, kc_2, kn_2, kc_3, kn_3, kc_4, kn_4, kc_5, kn_5, kc_6, kn_6, kc_7, kn_7, kc_8, kn_8, kc_9, kn_9, kc_10, kn_10, kc_11, kn_11, kc_12, kn_12, kc_13, kn_13, kc_14, kn_14, kc_15, kn_15, kc_16, kc_17, kc_18, kc_19, kc_20, kc_21, kc_22, kc_23, kc_30, kc_32, kc_40, kc_43, kc_45, kc_48, kc_52, kc_56, kc_57, kc_59, kc_60, kc_61, kc_63, kc_64, kc_72, kc_78, kc_97, kc_99, kc_122, kc_126, kc_128, kc_192, kc_200, kc_255, kc_999, kc_1000, kc_9999, kn_9999, kc_10000, kc_12345, kc_65536, kc_252645135, kc_858993459, kc_1103515245, kc_1431655765, kc_2147483647, kc_0, kc_24, kc_28, kc_37, kc_41, kc_42, kc_73, kc_91, kc_95, kc_96, kc_98, kc_100, kc_112, kc_125, kc_150, kc_162, kc_163, kc_168, kc_186, kc_190, kc_250, kc_355, kc_356, kc_404, kc_405, kc_429, kc_573, kc_1002, kc_1100, kc_1891, kc_2200, kc_4719, kc_4869, kc_4881, kc_5148, kc_19741, kc_25433, kc_320403, kc_628412, kc_629093, kc_660401, kc_679843, kc_918640, kc_979410, kc_1178088, kc_6232410, kc_24644941, kc_36238189, kc_38270444, kc_392531318, kc_425693491, kc_1342154595, kc_2147483648, kc_42328242873, kc_891704255789, kc_1722105685577, kc_1858726030364, ct_0, ct_1, ct_2, ct_3, ct_4, ct_5, cf_0, cf_1, cf_2, cf_3, cf_4, cf_5, w_ty6, w_ty7, m_sv, m_z0, m_hd, m_g0, m_gs, m_s0, m_ss, m_ap, m_an, forall_const, true_and, and_true, ne_eq, not_true_eq_false, not_false_eq_true, false_implies, true_implies, implies_true, eq_self, reduceCtorEq, Nat.reduceDiv, Nat.reduceMod, Int.reduceToNat, or_true, true_or, or_false, false_or, or_self, m_it, m_if, m_c1, m_01, m_02, m_03, m_04, m_10, m_12, m_13, m_14, m_20, m_21, m_23, m_24, m_30, m_31, m_32, m_34, m_40, m_41, m_42, m_43, Int.reduceLE, Int.reduceLT, Int.reduceGE, Int.reduceGT, Int.reduceNeg, Int.reduceAdd, Int.reduceSub, Int.reduceMul, Int.reduceEq, Int.reduceNe, Nat.reduceAdd, jun2, ro_0_0, ro_0_1, ro_0_2, ro_0_3, ro_0_4, ro_0_5, ro_0_6, ro_0_7, ro_0_8, ro_0_9, ro_0_10, ro_0_11, ro_0_12, ro_1_0, ro_1_1, ro_2_0, ro_4_0, ro_6_0, ro_6_1, ro_6_2, ro_6_3, ro_6_4, ro_6_5, ro_6_6, ro_6_7, ro_6_8, ro_8_0, ro_10_0, ro_12_0, ro_14_0, ro_16_0, ro_18_0, ro_20_0, ro_22_0, ro_22_1, ro_22_2, ro_23_0, ro_25_0, ro_27_0, ro_29_0, ro_29_1, ro_29_2, ro_29_3, ro_29_4, ro_29_5, ro_29_6, ro_29_7, ro_29_8, ro_31_0, ro_33_0, ro_35_0, ro_37_0, ro_39_0, ro_41_0, ro_43_0, ro_45_0, ro_45_1, ro_45_2, ro_46_0, ro_48_0, ro_50_0, ro_52_0, ro_52_1, ro_52_2, ro_52_3, ro_53_0, ro_55_0, ro_57_0, ro_59_0, ro_61_0, ro_61_1, ro_61_2, ro_61_3, ro_62_0, ro_64_0, ro_66_0, ro_68_0, ro_70_0, ro_70_1, ro_70_2, ro_70_3, ro_70_4, ro_70_5, ro_70_6, ro_70_7, ro_70_8, ro_70_9, ro_71_0, ro_73_0, ro_75_0, ro_77_0, ro_79_0, ro_81_0, ro_83_0, ro_85_0, ro_87_0, ro_89_0, ro_91_0, ro_91_1, ro_91_2, ro_91_3, ro_91_4, ro_91_5, ro_91_6, ro_91_7, ro_91_8, ro_91_9, ro_92_0, ro_94_0, ro_96_0, ro_98_0, ro_100_0, ro_102_0, ro_104_0, ro_106_0, ro_108_0, ro_110_0, ro_112_0, ro_112_1, ro_112_2, ro_112_3, ro_112_4, ro_112_5, ro_112_6, ro_112_7, ro_112_8, ro_112_9, ro_113_0, ro_115_0, ro_117_0, ro_119_0, ro_121_0, ro_123_0, ro_125_0, ro_127_0, ro_129_0, ro_131_0, ro_133_0, ro_133_1, ro_133_2, ro_133_3, ro_133_4, ro_133_5, ro_133_6, ro_133_7, ro_133_8, ro_133_9, ro_134_0, ro_136_0, ro_138_0, ro_140_0, ro_142_0, ro_144_0, ro_146_0, ro_148_0, ro_150_0, ro_152_0, ro_154_0, ro_155_0, ro_157_0, ro_157_1, ro_157_2, ro_157_3, ro_157_4, ro_157_5, ro_157_6, ro_157_7, ro_157_8, ro_157_9, ro_158_0, ro_160_0, ro_162_0, ro_164_0, ro_166_0, ro_168_0, ro_170_0, ro_172_0, ro_174_0, ro_176_0, ro_178_0, ro_180_0, ro_182_1, ro_182_4, ro_182_5, ro_182_6, ro_182_9, ro_182_10, ro_182_11, ro_182_13, ro_182_14, ro_182_15, ro_182_16, ro_182_17, ro_182_20, ro_182_21, ro_182_22, ro_182_23, ro_182_24, ro_182_26, ro_182_27, ro_182_28, lo_3, lo_5, lo_7, lo_9, lo_11, lo_13, lo_15, lo_17, lo_19, lo_21, lo_24, lo_26, lo_28, lo_30, lo_32, lo_34, lo_36, lo_38, lo_40, lo_42, lo_44, lo_47, lo_49, lo_51, lo_54, lo_56, lo_58, lo_60, lo_63, lo_65, lo_67, lo_69, lo_72, lo_74, lo_76, lo_78, lo_80, lo_82, lo_84, lo_86, lo_88, lo_90, lo_93, lo_95, lo_97, lo_99, lo_101, lo_103, lo_105, lo_107, lo_109, lo_111, lo_114, lo_116, lo_118, lo_120, lo_122, lo_124, lo_126, lo_128, lo_130, lo_132, lo_135, lo_137, lo_139, lo_141, lo_143, lo_145, lo_147, lo_149, lo_151, lo_153, lo_156, lo_159, lo_161, lo_163, lo_165, lo_167, lo_169, lo_171, lo_173, lo_175, lo_177, lo_179, lo_181, lo_183, lo_184, lo_185, lo_186, lo_187, lo_188, lo_189, lo_190, lo_191, lo_192, lo_193, lo_194, lo_195, lo_196, lo_197, lo_198, lo_199, lo_200, lo_201, lo_202, lo_203, jp_nn, jp_eq, jp_e1, Classical.not_not, ji0, ji1, ji2, cs2_193, kk_193]
    by_cases z : h 182 8 = 0 ∧ h 184 (h 182 7).toNat = 1 ∧ h 186 (h 182 7).toNat = h 187 c.toNat
    · rw [jp_t z] at hQ ⊢
      exact ⟨fun _ _ => hQ, fun y => absurd z y⟩
    · rw [jp_f z] at hQ ⊢
      exact ⟨fun y => absurd y z, fun _ _ => hQ⟩
  · exact hQ.elim
theorem m_201 : BodyOK CS2 CS2 201 := fun av h Q hQ => by
  rw [cs2_201] at hQ
  unfold k201 at hQ
  split at hQ
  · rename_i x a n
    obtain ⟨rfl, ⟨a0_w, a1_w, n0_w, n1_w⟩, hQ⟩ := hQ
    show pS CS2 bb_201 [182, a, n, 0, 0] h _
    unfold bb_201
    simp only [qe_1, qe_3, qe_4, qe_5, qe_7, qe_72, qe_10, qe_102, qe_13, qe_14, qe_15, qe_16, qe_17, qe_18, qe_20, qe_22, qe_23, qe_21, qe_24, qe_25, qe_26, qe_27, qe_28, qe_30, qe_31, qe_32, qc_20, qc_22, qc_23, qc_21, qc_24, qc_25, qc_26, qc_27, qc_1, qc_3, qc_4, qc_7, qc_13, qc_28, qc_32, qs_1, qs_2, qs_3, qs_4, qs_5, qs_6, qs_9, qs_10, qs_11, qs_14, qs_15, qs_16, qs_27, qs_17, qs_18, qs_19, qs_20, qs_22, qs_23, qs_28, qs_25, qs_26, qs_7, qs_8, kc_1, kn_1, kc_2, kn_2, kc_3, kn_3, kc_4, kn_4, kc_5, kn_5, kc_6, kn_6, kc_7, kn_7, kc_8, kn_8, kc_9, kn_9, kc_10, kn_10, kc_11, kn_11, kc_12, kn_12, kc_13, kn_13, kc_14, kn_14, kc_15, kn_15, kc_16, kc_17, kc_18, kc_19, kc_20, kc_21, kc_22, kc_23, kc_30, kc_32, kc_40, kc_43, kc_45, kc_48, kc_52, kc_56, kc_57, kc_59, kc_60, kc_61, kc_63, kc_64, kc_72, kc_78, kc_97, kc_99, kc_122, kc_126, kc_128, kc_192, kc_200, kc_255, kc_999, kc_1000, kc_9999, kn_9999, kc_10000, kc_12345, kc_65536, kc_252645135, kc_858993459, kc_1103515245, kc_1431655765, kc_2147483647, kc_0, kc_24, kc_28, kc_37, kc_41, kc_42, kc_73, kc_91, kc_95, kc_96, kc_98, kc_100, kc_112, kc_125, kc_150, kc_162, kc_163, kc_168, kc_186, kc_190, kc_250, kc_355, kc_356, kc_404, kc_405, kc_429, kc_573, kc_1002, kc_1100, kc_1891, kc_2200, kc_4719, kc_4869, kc_4881, kc_5148, kc_19741, kc_25433, kc_320403, kc_628412, kc_629093, kc_660401, kc_679843, kc_918640, kc_979410, kc_1178088, kc_6232410, kc_24644941, kc_36238189, kc_38270444, kc_392531318, kc_425693491, kc_1342154595, kc_2147483648, kc_42328242873, kc_891704255789, kc_1722105685577, kc_1858726030364, ct_0, ct_1, ct_2, ct_3, ct_4, ct_5, cf_0, cf_1, cf_2, cf_3, cf_4, cf_5, w_ty6, w_ty7, m_sv, m_z0, m_hd, m_g0, m_gs, m_s0, m_ss, m_ap, m_an, forall_const, true_and, and_true, ne_eq, not_true_eq_false, not_false_eq_true, false_implies, true_implies, implies_true, eq_self, reduceCtorEq, Nat.reduceDiv, Nat.reduceMod, Int.reduceToNat, or_true, true_or, or_false, false_or, or_self, m_it, m_if, m_c1, m_01, m_02, m_03, m_04, m_10, m_12, m_13, m_14, m_20, m_21, m_23, m_24, m_30, m_31, m_32, m_34, m_40, m_41, m_42, m_43, Int.reduceLE, Int.reduceLT, Int.reduceGE, Int.reduceGT, Int.reduceNeg, Int.reduceAdd, Int.reduceSub, Int.reduceMul, Int.reduceEq, Int.reduceNe, Nat.reduceAdd, jun2, ro_0_0, ro_0_1, ro_0_2, ro_0_3, ro_0_4, ro_0_5, ro_0_6, ro_0_7, ro_0_8, ro_0_9, ro_0_10, ro_0_11, ro_0_12, ro_1_0, ro_1_1, ro_2_0, ro_4_0, ro_6_0, ro_6_1, ro_6_2, ro_6_3, ro_6_4, ro_6_5, ro_6_6, ro_6_7, ro_6_8, ro_8_0, ro_10_0, ro_12_0, ro_14_0, ro_16_0, ro_18_0, ro_20_0, ro_22_0, ro_22_1, ro_22_2, ro_23_0, ro_25_0, ro_27_0, ro_29_0, ro_29_1, ro_29_2, ro_29_3, ro_29_4, ro_29_5, ro_29_6, ro_29_7, ro_29_8, ro_31_0, ro_33_0, ro_35_0, ro_37_0, ro_39_0, ro_41_0, ro_43_0, ro_45_0, ro_45_1, ro_45_2, ro_46_0, ro_48_0, ro_50_0, ro_52_0, ro_52_1, ro_52_2, ro_52_3, ro_53_0, ro_55_0, ro_57_0, ro_59_0, ro_61_0, ro_61_1, ro_61_2, ro_61_3, ro_62_0, ro_64_0, ro_66_0, ro_68_0, ro_70_0, ro_70_1, ro_70_2, ro_70_3, ro_70_4, ro_70_5, ro_70_6, ro_70_7, ro_70_8, ro_70_9, ro_71_0, ro_73_0, ro_75_0, ro_77_0, ro_79_0, ro_81_0, ro_83_0, ro_85_0, ro_87_0, ro_89_0, ro_91_0, ro_91_1, ro_91_2, ro_91_3, ro_91_4, ro_91_5, ro_91_6, ro_91_7, ro_91_8, ro_91_9, ro_92_0, ro_94_0, ro_96_0, ro_98_0, ro_100_0, ro_102_0, ro_104_0, ro_106_0, ro_108_0, ro_110_0, ro_112_0, ro_112_1, ro_112_2, ro_112_3, ro_112_4, ro_112_5, ro_112_6, ro_112_7, ro_112_8, ro_112_9, ro_113_0, ro_115_0, ro_117_0, ro_119_0, ro_121_0, ro_123_0, ro_125_0, ro_127_0, ro_129_0, ro_131_0, ro_133_0, ro_133_1, ro_133_2, ro_133_3, ro_133_4, ro_133_5, ro_133_6, ro_133_7, ro_133_8, ro_133_9, ro_134_0, ro_136_0, ro_138_0, ro_140_0, ro_142_0, ro_144_0, ro_146_0, ro_148_0, ro_150_0, ro_152_0, ro_154_0, ro_155_0, ro_157_0, ro_157_1, ro_157_2, ro_157_3, ro_157_4, ro_157_5, ro_157_6, ro_157_7, ro_157_8, ro_157_9, ro_158_0, ro_160_0, ro_162_0, ro_164_0, ro_166_0, ro_168_0, ro_170_0, ro_172_0, ro_174_0, ro_176_0, ro_178_0, ro_180_0, ro_182_1, ro_182_4, ro_182_5, ro_182_6, ro_182_9, ro_182_10, ro_182_11, ro_182_13, ro_182_14, ro_182_15, ro_182_16, ro_182_17, ro_182_20, ro_182_21, ro_182_22, ro_182_23, ro_182_24, ro_182_26, ro_182_27, ro_182_28, lo_3, lo_5, lo_7, lo_9, lo_11, lo_13, lo_15, lo_17, lo_19, lo_21, lo_24, lo_26, lo_28, lo_30, lo_32, lo_34, lo_36, lo_38, lo_40, lo_42, lo_44, lo_47, lo_49, lo_51, lo_54, lo_56, lo_58, lo_60, lo_63, lo_65, lo_67, lo_69, lo_72, lo_74, lo_76, lo_78, lo_80, lo_82, lo_84, lo_86, lo_88, lo_90, lo_93, lo_95, lo_97, lo_99, lo_101, lo_103, lo_105, lo_107, lo_109, lo_111, lo_114, lo_116, lo_118, lo_120, lo_122, lo_124, lo_126, lo_128, lo_130, lo_132, lo_135, lo_137, lo_139, lo_141, lo_143, lo_145, lo_147, lo_149, lo_151, lo_153, lo_156, lo_159, lo_161, lo_163, lo_165, lo_167, lo_169, lo_171, lo_173, lo_175, lo_177, lo_179, lo_181, lo_183, lo_184, lo_185, lo_186, lo_187, lo_188, lo_189, lo_190, lo_191, lo_192, lo_193, lo_194, lo_195, lo_196, lo_197, lo_198, lo_199, lo_200, lo_201, lo_202, lo_203, jp_nn, jp_eq, jp_e1, Classical.not_not, ji0, ji1, ji2, cs2_193, kk_193]
    refine qp_lp (fun en h' => h' = h ∧ ∃ k : Nat, (k : Int) ≤ n ∧ en = [182, a, n, if h 182 8 = 0 then wHere (h 184) (h 186) (h 187) a.toNat k (h 182 7).toNat else -1, (k : Int)]) ⟨rfl, 0, by omega, by
      split <;> rfl⟩ ?_
    intro en h' ⟨e1_w, k, hk, e2_w⟩
    subst e1_w e2_w
    simp only [qe_1, qe_3, qe_4, qe_5, qe_7, qe_72, qe_10, qe_102, qe_13, qe_14, qe_15, qe_16, qe_17, qe_18, qe_20, qe_22, qe_23, qe_21, qe_24, qe_25, qe_26, qe_27, qe_28, qe_30, qe_31, qe_32, qc_20, qc_22, qc_23, qc_21, qc_24, qc_25, qc_26, qc_27, qc_1, qc_3, qc_4, qc_7, qc_13, qc_28, qc_32, qs_1, qs_2, qs_3, qs_4, qs_5, qs_6, qs_9, qs_10, qs_11, qs_14, qs_15, qs_16, qs_27, qs_17, qs_18, qs_19, qs_20, qs_22, qs_23, qs_28, qs_25, qs_26, qs_7, qs_8, kc_1, kn_1, kc_2, kn_2, kc_3, kn_3, kc_4, kn_4, kc_5, kn_5, kc_6, kn_6, kc_7, kn_7, kc_8, kn_8, kc_9, kn_9, kc_10, kn_10, kc_11, kn_11, kc_12, kn_12, kc_13, kn_13, kc_14, kn_14, kc_15, kn_15, kc_16, kc_17, kc_18, kc_19, kc_20, kc_21, kc_22, kc_23, kc_30, kc_32, kc_40, kc_43, kc_45, kc_48, kc_52, kc_56, kc_57, kc_59, kc_60, kc_61, kc_63, kc_64, kc_72, kc_78, kc_97, kc_99, kc_122, kc_126, kc_128, kc_192, kc_200, kc_255, kc_999, kc_1000, kc_9999, kn_9999, kc_10000, kc_12345, kc_65536, kc_252645135, kc_858993459, kc_1103515245, kc_1431655765, kc_2147483647, kc_0, kc_24, kc_28, kc_37, kc_41, kc_42, kc_73, kc_91, kc_95, kc_96, kc_98, kc_100, kc_112, kc_125, kc_150, kc_162, kc_163, kc_168, kc_186, kc_190, kc_250, kc_355, kc_356, kc_404, kc_405, kc_429, kc_573, kc_1002, kc_1100, kc_1891, kc_2200, kc_4719, kc_4869, kc_4881, kc_5148, kc_19741, kc_25433, kc_320403, kc_628412, kc_629093, kc_660401, kc_679843, kc_918640, kc_979410, kc_1178088, kc_6232410, kc_24644941, kc_36238189, kc_38270444, kc_392531318, kc_425693491, kc_1342154595, kc_2147483648, kc_42328242873, kc_891704255789, kc_1722105685577, kc_1858726030364, ct_0, ct_1, ct_2, ct_3, ct_4, ct_5, cf_0, cf_1, cf_2, cf_3, cf_4, cf_5, w_ty6, w_ty7, m_sv, m_z0, m_hd, m_g0, m_gs, m_s0, m_ss, m_ap, m_an, forall_const, true_and, and_true, ne_eq, not_true_eq_false, not_false_eq_true, false_implies, true_implies, implies_true, eq_self, reduceCtorEq, Nat.reduceDiv, Nat.reduceMod, Int.reduceToNat, or_true, true_or, or_false, false_or, or_self, m_it, m_if, m_c1, m_01, m_02, m_03, m_04, m_10, m_12, m_13, m_14, m_20, m_21, m_23, m_24, m_30, m_31, m_32, m_34, m_40, m_41, m_42, m_43, Int.reduceLE, Int.reduceLT, Int.reduceGE, Int.reduceGT, Int.reduceNeg, Int.reduceAdd, Int.reduceSub, Int.reduceMul, Int.reduceEq, Int.reduceNe, Nat.reduceAdd, jun2, ro_0_0, ro_0_1, ro_0_2, ro_0_3, ro_0_4, ro_0_5, ro_0_6, ro_0_7, ro_0_8, ro_0_9, ro_0_10, ro_0_11, ro_0_12, ro_1_0, ro_1_1, ro_2_0, ro_4_0, ro_6_0, ro_6_1, ro_6_2, ro_6_3, ro_6_4, ro_6_5, ro_6_6, ro_6_7, ro_6_8, ro_8_0, ro_10_0, ro_12_0, ro_14_0, ro_16_0, ro_18_0, ro_20_0, ro_22_0, ro_22_1, ro_22_2, ro_23_0, ro_25_0, ro_27_0, ro_29_0, ro_29_1, ro_29_2, ro_29_3, ro_29_4, ro_29_5, ro_29_6, ro_29_7, ro_29_8, ro_31_0, ro_33_0, ro_35_0, ro_37_0, ro_39_0, ro_41_0, ro_43_0, ro_45_0, ro_45_1, ro_45_2, ro_46_0, ro_48_0, ro_50_0, ro_52_0, ro_52_1, ro_52_2, ro_52_3, ro_53_0, ro_55_0, ro_57_0, ro_59_0, ro_61_0, ro_61_1, ro_61_2, ro_61_3, ro_62_0, ro_64_0, ro_66_0, ro_68_0, ro_70_0, ro_70_1, ro_70_2, ro_70_3, ro_70_4, ro_70_5, ro_70_6, ro_70_7, ro_70_8, ro_70_9, ro_71_0, ro_73_0, ro_75_0, ro_77_0, ro_79_0, ro_81_0, ro_83_0, ro_85_0, ro_87_0, ro_89_0, ro_91_0, ro_91_1, ro_91_2, ro_91_3, ro_91_4, ro_91_5, ro_91_6, ro_91_7, ro_91_8, ro_91_9, ro_92_0, ro_94_0, ro_96_0, ro_98_0, ro_100_0, ro_102_0, ro_104_0, ro_106_0, ro_108_0, ro_110_0, ro_112_0, ro_112_1, ro_112_2, ro_112_3, ro_112_4, ro_112_5, ro_112_6, ro_112_7, ro_112_8, ro_112_9, ro_113_0, ro_115_0, ro_117_0, ro_119_0, ro_121_0, ro_123_0, ro_125_0, ro_127_0, ro_129_0, ro_131_0, ro_133_0, ro_133_1, ro_133_2, ro_133_3, ro_133_4, ro_133_5, ro_133_6, ro_133_7, ro_133_8, ro_133_9, ro_134_0, ro_136_0, ro_138_0, ro_140_0, ro_142_0, ro_144_0, ro_146_0, ro_148_0, ro_150_0, ro_152_0, ro_154_0, ro_155_0, ro_157_0, ro_157_1, ro_157_2, ro_157_3, ro_157_4, ro_157_5, ro_157_6, ro_157_7, ro_157_8, ro_157_9, ro_158_0, ro_160_0, ro_162_0, ro_164_0, ro_166_0, ro_168_0, ro_170_0, ro_172_0, ro_174_0, ro_176_0, ro_178_0, ro_180_0, ro_182_1, ro_182_4, ro_182_5, ro_182_6, ro_182_9, ro_182_10, ro_182_11, ro_182_13, ro_182_14, ro_182_15, ro_182_16, ro_182_17, ro_182_20, ro_182_21, ro_182_22, ro_182_23, ro_182_24, ro_182_26, ro_182_27, ro_182_28, lo_3, lo_5, lo_7, lo_9, lo_11, lo_13, lo_15, lo_17, lo_19, lo_21, lo_24, lo_26, lo_28, lo_30, lo_32, lo_34, lo_36, lo_38, lo_40, lo_42, lo_44, lo_47, lo_49, lo_51, lo_54, lo_56, lo_58, lo_60, lo_63, lo_65, lo_67, lo_69, lo_72, lo_74, lo_76, lo_78, lo_80, lo_82, lo_84, lo_86, lo_88, lo_90, lo_93, lo_95, lo_97, lo_99, lo_101, lo_103, lo_105, lo_107, lo_109, lo_111, lo_114, lo_116, lo_118, lo_120, lo_122, lo_124, lo_126, lo_128, lo_130, lo_132, lo_135, lo_137, lo_139, lo_141, lo_143, lo_145, lo_147, lo_149, lo_151, lo_153, lo_156, lo_159, lo_161, lo_163, lo_165, lo_167, lo_169, lo_171, lo_173, lo_175, lo_177, lo_179, lo_181, lo_183, lo_184, lo_185, lo_186, lo_187, lo_188, lo_189, lo_190, lo_191, lo_192, lo_193, lo_194, lo_195, lo_196, lo_197, lo_198, lo_199, lo_200, lo_201, lo_202, lo_203, jp_nn, jp_eq, jp_e1, Classical.not_not, ji0, ji1, ji2, cs2_193, kk_193]
    refine ⟨fun y => ?_, fun y => ?_⟩
    · rw [j32_id (x := a + (k : Int)) (by omega) (by omega), j32_id (x := (k : Int) + 1) (by omega) (by omega)]
      rw [show (a + (k : Int)).toNat = a.toNat + k by omega]
      have e : wHere (h' 184) (h' 186) (h' 187) a.toNat (k + 1) (h' 182 7).toNat = if sWd (h' 184) (h' 186) (h' 187) (a.toNat + k) (h' 182 7).toNat then (k : Int) else wHere (h' 184) (h' 186) (h' 187) a.toNat k (h' 182 7).toNat := by
        unfold wHere
        rw [lst]
        simp only [decide_eq_true_eq]
      by_cases z : h' 182 8 = 0
      · simp only [z, true_and, if_true] at *
        refine ⟨fun w => ⟨k + 1, by omega, ?_⟩, fun w => ⟨k + 1, by omega, ?_⟩⟩
        · rw [e, if_pos w]
          rfl
        · rw [e, if_neg w]
          rfl
      · simp only [z, false_and, if_false] at *
        refine ⟨fun w => w.elim, fun _ => ⟨k + 1, by omega, rfl⟩⟩
    · have : k = n.toNat := by omega
      subst this
      exact hQ
  · exact hQ.elim
theorem m_203 : BodyOK CS2 CS2 203 := fun av h Q hQ => by
  rw [cs2_203] at hQ
  unfold k203 at hQ
  split at hQ
  · rename_i x
    obtain ⟨rfl, hQ⟩ := hQ
    show pS CS2 bb_203 [182] h _
    unfold bb_203
    simp only [qe_1, qe_3, qe_4, qe_5, qe_7, qe_72, qe_10, qe_102, qe_13, qe_14, qe_15, qe_16, qe_17, qe_18, qe_20, qe_22, qe_23, qe_21, qe_24, qe_25, qe_26, qe_27, qe_28, qe_30, qe_31, qe_32, qc_20, qc_22, qc_23, qc_21, qc_24, qc_25, qc_26, qc_27, qc_1, qc_3, qc_4, qc_7, qc_13, qc_28, qc_32, qs_1, qs_2, qs_3, qs_4, qs_5, qs_6, qs_9, qs_10, qs_11, qs_14, qs_15, qs_16, qs_27, qs_17, qs_18, qs_19, qs_20, qs_22, qs_23, qs_28, qs_25, qs_26, qs_7, qs_8, kc_1, kn_1, kc_2, kn_2, kc_3, kn_3, kc_4, kn_4, kc_5, kn_5, kc_6, kn_6, kc_7, kn_7, kc_8, kn_8, kc_9, kn_9, kc_10, kn_10, kc_11, kn_11, kc_12, kn_12, kc_13, kn_13, kc_14, kn_14, kc_15, kn_15, kc_16, kc_17, kc_18, kc_19, kc_20, kc_21, kc_22, kc_23, kc_30, kc_32, kc_40, kc_43, kc_45, kc_48, kc_52, kc_56, kc_57, kc_59, kc_60, kc_61, kc_63, kc_64, kc_72, kc_78, kc_97, kc_99, kc_122, kc_126, kc_128, kc_192, kc_200, kc_255, kc_999, kc_1000, kc_9999, kn_9999, kc_10000, kc_12345, kc_65536, kc_252645135, kc_858993459, kc_1103515245, kc_1431655765, kc_2147483647, kc_0, kc_24, kc_28, kc_37, kc_41, kc_42, kc_73, kc_91, kc_95, kc_96, kc_98, kc_100, kc_112, kc_125, kc_150, kc_162, kc_163, kc_168, kc_186, kc_190, kc_250, kc_355, kc_356, kc_404, kc_405, kc_429, kc_573, kc_1002, kc_1100, kc_1891, kc_2200, kc_4719, kc_4869, kc_4881, kc_5148, kc_19741, kc_25433, kc_320403, kc_628412, kc_629093, kc_660401, kc_679843, kc_918640, kc_979410, kc_1178088, kc_6232410, kc_24644941, kc_36238189, kc_38270444, kc_392531318, kc_425693491, kc_1342154595, kc_2147483648, kc_42328242873, kc_891704255789, kc_1722105685577, kc_1858726030364, ct_0, ct_1, ct_2, ct_3, ct_4, ct_5, cf_0, cf_1, cf_2, cf_3, cf_4, cf_5, w_ty6, w_ty7, m_sv, m_z0, m_hd, m_g0, m_gs, m_s0, m_ss, m_ap, m_an, forall_const, true_and, and_true, ne_eq, not_true_eq_false, not_false_eq_true, false_implies, true_implies, implies_true, eq_self, reduceCtorEq, Nat.reduceDiv, Nat.reduceMod, Int.reduceToNat, or_true, true_or, or_false, false_or, or_self, m_it, m_if, m_c1, m_01, m_02, m_03, m_04, m_10, m_12, m_13, m_14, m_20, m_21, m_23, m_24, m_30, m_31, m_32, m_34, m_40, m_41, m_42, m_43, Int.reduceLE, Int.reduceLT, Int.reduceGE, Int.reduceGT, Int.reduceNeg, Int.reduceAdd, Int.reduceSub, Int.reduceMul, Int.reduceEq, Int.reduceNe, Nat.reduceAdd, jun2, ro_0_0, ro_0_1, ro_0_2, ro_0_3, ro_0_4, ro_0_5, ro_0_6, ro_0_7, ro_0_8, ro_0_9, ro_0_10, ro_0_11, ro_0_12, ro_1_0, ro_1_1, ro_2_0, ro_4_0, ro_6_0, ro_6_1, ro_6_2, ro_6_3, ro_6_4, ro_6_5, ro_6_6, ro_6_7, ro_6_8, ro_8_0, ro_10_0, ro_12_0, ro_14_0, ro_16_0, ro_18_0, ro_20_0, ro_22_0, ro_22_1, ro_22_2, ro_23_0, ro_25_0, ro_27_0, ro_29_0, ro_29_1, ro_29_2, ro_29_3, ro_29_4, ro_29_5, ro_29_6, ro_29_7, ro_29_8, ro_31_0, ro_33_0, ro_35_0, ro_37_0, ro_39_0, ro_41_0, ro_43_0, ro_45_0, ro_45_1, ro_45_2, ro_46_0, ro_48_0, ro_50_0, ro_52_0, ro_52_1, ro_52_2, ro_52_3, ro_53_0, ro_55_0, ro_57_0, ro_59_0, ro_61_0, ro_61_1, ro_61_2, ro_61_3, ro_62_0, ro_64_0, ro_66_0, ro_68_0, ro_70_0, ro_70_1, ro_70_2, ro_70_3, ro_70_4, ro_70_5, ro_70_6, ro_70_7, ro_70_8, ro_70_9, ro_71_0, ro_73_0, ro_75_0, ro_77_0, ro_79_0, ro_81_0, ro_83_0, ro_85_0, ro_87_0, ro_89_0, ro_91_0, ro_91_1, ro_91_2, ro_91_3, ro_91_4, ro_91_5, ro_91_6, ro_91_7, ro_91_8, ro_91_9, ro_92_0, ro_94_0, ro_96_0, ro_98_0, ro_100_0, ro_102_0, ro_104_0, ro_106_0, ro_108_0, ro_110_0, ro_112_0, ro_112_1, ro_112_2, ro_112_3, ro_112_4, ro_112_5, ro_112_6, ro_112_7, ro_112_8, ro_112_9, ro_113_0, ro_115_0, ro_117_0, ro_119_0, ro_121_0, ro_123_0, ro_125_0, ro_127_0, ro_129_0, ro_131_0, ro_133_0, ro_133_1, ro_133_2, ro_133_3, ro_133_4, ro_133_5, ro_133_6, ro_133_7, ro_133_8, ro_133_9, ro_134_0, ro_136_0, ro_138_0, ro_140_0, ro_142_0, ro_144_0, ro_146_0, ro_148_0, ro_150_0, ro_152_0, ro_154_0, ro_155_0, ro_157_0, ro_157_1, ro_157_2, ro_157_3, ro_157_4, ro_157_5, ro_157_6, ro_157_7, ro_157_8, ro_157_9, ro_158_0, ro_160_0, ro_162_0, ro_164_0, ro_166_0, ro_168_0, ro_170_0, ro_172_0, ro_174_0, ro_176_0, ro_178_0, ro_180_0, ro_182_1, ro_182_4, ro_182_5, ro_182_6, ro_182_9, ro_182_10, ro_182_11, ro_182_13, ro_182_14, ro_182_15, ro_182_16, ro_182_17, ro_182_20, ro_182_21, ro_182_22, ro_182_23, ro_182_24, ro_182_26, ro_182_27, ro_182_28, lo_3, lo_5, lo_7, lo_9, lo_11, lo_13, lo_15, lo_17, lo_19, lo_21, lo_24, lo_26, lo_28, lo_30, lo_32, lo_34, lo_36, lo_38, lo_40, lo_42, lo_44, lo_47, lo_49, lo_51, lo_54, lo_56, lo_58, lo_60, lo_63, lo_65, lo_67, lo_69, lo_72, lo_74, lo_76, lo_78, lo_80, lo_82, lo_84, lo_86, lo_88, lo_90, lo_93, lo_95, lo_97, lo_99, lo_101, lo_103, lo_105, lo_107, lo_109, lo_111, lo_114, lo_116, lo_118, lo_120, lo_122, lo_124, lo_126, lo_128, lo_130, lo_132, lo_135, lo_137, lo_139, lo_141, lo_143, lo_145, lo_147, lo_149, lo_151, lo_153, lo_156, lo_159, lo_161, lo_163, lo_165, lo_167, lo_169, lo_171, lo_173, lo_175, lo_177, lo_179, lo_181, lo_183, lo_184, lo_185, lo_186, lo_187, lo_188, lo_189, lo_190, lo_191, lo_192, lo_193, lo_194, lo_195, lo_196, lo_197, lo_198, lo_199, lo_200, lo_201, lo_202, lo_203, jp_nn, jp_eq, jp_e1, Classical.not_not, ji0, ji1, ji2, cs2_201, kk_201]
    refine ⟨fun y => ?_, fun y => ?_⟩
    · intro _
      rw [if_pos y]
      refine ⟨fun y1 => ⟨fun y2 => ?_, fun y2 => ?_⟩, fun y1 => ?_⟩
      · rwa [jp_t ⟨y, y1, y2⟩] at hQ
      · rwa [jp_f (fun w => by have := w.2.2; omega)] at hQ
      · rwa [jp_f (fun w => y1 w.2.1)] at hQ
    · rwa [jp_f (fun w => y w.1)] at hQ
  · exact hQ.elim
theorem m_204 : BodyOK CS2 CS2 204 := fun av h Q hQ => by
  rw [cs2_204] at hQ
  unfold k204 at hQ
  split at hQ
  · rename_i x a n
    obtain ⟨rfl, l, rfl, a0_w, a1_w, n1_w, hl, hQ⟩ := hQ
    show pS CS2 bb_204 [182, a, (l.length : Int), 0, 0] h _
    unfold bb_204
    simp only [qe_1, qe_3, qe_4, qe_5, qe_7, qe_72, qe_10, qe_102, qe_13, qe_14, qe_15, qe_16, qe_17, qe_18, qe_20, qe_22, qe_23, qe_21, qe_24, qe_25, qe_26, qe_27, qe_28, qe_30, qe_31, qe_32, qc_20, qc_22, qc_23, qc_21, qc_24, qc_25, qc_26, qc_27, qc_1, qc_3, qc_4, qc_7, qc_13, qc_28, qc_32, qs_1, qs_2, qs_3, qs_4, qs_5, qs_6, qs_9, qs_10, qs_11, qs_14, qs_15, qs_16, qs_27, qs_17, qs_18, qs_19, qs_20, qs_22, qs_23, qs_28, qs_25, qs_26, qs_7, qs_8, kc_1, kn_1, kc_2, kn_2, kc_3, kn_3, kc_4, kn_4, kc_5, kn_5, kc_6, kn_6, kc_7, kn_7, kc_8, kn_8, kc_9, kn_9, kc_10, kn_10, kc_11, kn_11, kc_12, kn_12, kc_13, kn_13, kc_14, kn_14, kc_15, kn_15, kc_16, kc_17, kc_18, kc_19, kc_20, kc_21, kc_22, kc_23, kc_30, kc_32, kc_40, kc_43, kc_45, kc_48, kc_52, kc_56, kc_57, kc_59, kc_60, kc_61, kc_63, kc_64, kc_72, kc_78, kc_97, kc_99, kc_122, kc_126, kc_128, kc_192, kc_200, kc_255, kc_999, kc_1000, kc_9999, kn_9999, kc_10000, kc_12345, kc_65536, kc_252645135, kc_858993459, kc_1103515245, kc_1431655765, kc_2147483647, kc_0, kc_24, kc_28, kc_37, kc_41, kc_42, kc_73, kc_91, kc_95, kc_96, kc_98, kc_100, kc_112, kc_125, kc_150, kc_162, kc_163, kc_168, kc_186, kc_190, kc_250, kc_355, kc_356, kc_404, kc_405, kc_429, kc_573, kc_1002, kc_1100, kc_1891, kc_2200, kc_4719, kc_4869, kc_4881, kc_5148, kc_19741, kc_25433, kc_320403, kc_628412, kc_629093, kc_660401, kc_679843, kc_918640, kc_979410, kc_1178088, kc_6232410, kc_24644941, kc_36238189, kc_38270444, kc_392531318, kc_425693491, kc_1342154595, kc_2147483648, kc_42328242873, kc_891704255789, kc_1722105685577, kc_1858726030364, ct_0, ct_1, ct_2, ct_3, ct_4, ct_5, cf_0, cf_1, cf_2, cf_3, cf_4, cf_5, w_ty6, w_ty7, m_sv, m_z0, m_hd, m_g0, m_gs, m_s0, m_ss, m_ap, m_an, forall_const, true_and, and_true, ne_eq, not_true_eq_false, not_false_eq_true, false_implies, true_implies, implies_true, eq_self, reduceCtorEq, Nat.reduceDiv, Nat.reduceMod, Int.reduceToNat, or_true, true_or, or_false, false_or, or_self, m_it, m_if, m_c1, m_01, m_02, m_03, m_04, m_10, m_12, m_13, m_14, m_20, m_21, m_23, m_24, m_30, m_31, m_32, m_34, m_40, m_41, m_42, m_43, Int.reduceLE, Int.reduceLT, Int.reduceGE, Int.reduceGT, Int.reduceNeg, Int.reduceAdd, Int.reduceSub, Int.reduceMul, Int.reduceEq, Int.reduceNe, Nat.reduceAdd, jun2, ro_0_0, ro_0_1, ro_0_2, ro_0_3, ro_0_4, ro_0_5, ro_0_6, ro_0_7, ro_0_8, ro_0_9, ro_0_10, ro_0_11, ro_0_12, ro_1_0, ro_1_1, ro_2_0, ro_4_0, ro_6_0, ro_6_1, ro_6_2, ro_6_3, ro_6_4, ro_6_5, ro_6_6, ro_6_7, ro_6_8, ro_8_0, ro_10_0, ro_12_0, ro_14_0, ro_16_0, ro_18_0, ro_20_0, ro_22_0, ro_22_1, ro_22_2, ro_23_0, ro_25_0, ro_27_0, ro_29_0, ro_29_1, ro_29_2, ro_29_3, ro_29_4, ro_29_5, ro_29_6, ro_29_7, ro_29_8, ro_31_0, ro_33_0, ro_35_0, ro_37_0, ro_39_0, ro_41_0, ro_43_0, ro_45_0, ro_45_1, ro_45_2, ro_46_0, ro_48_0, ro_50_0, ro_52_0, ro_52_1, ro_52_2, ro_52_3, ro_53_0, ro_55_0, ro_57_0, ro_59_0, ro_61_0, ro_61_1, ro_61_2, ro_61_3, ro_62_0, ro_64_0, ro_66_0, ro_68_0, ro_70_0, ro_70_1, ro_70_2, ro_70_3, ro_70_4, ro_70_5, ro_70_6, ro_70_7, ro_70_8, ro_70_9, ro_71_0, ro_73_0, ro_75_0, ro_77_0, ro_79_0, ro_81_0, ro_83_0, ro_85_0, ro_87_0, ro_89_0, ro_91_0, ro_91_1, ro_91_2, ro_91_3, ro_91_4, ro_91_5, ro_91_6, ro_91_7, ro_91_8, ro_91_9, ro_92_0, ro_94_0, ro_96_0, ro_98_0, ro_100_0, ro_102_0, ro_104_0, ro_106_0, ro_108_0, ro_110_0, ro_112_0, ro_112_1, ro_112_2, ro_112_3, ro_112_4, ro_112_5, ro_112_6, ro_112_7, ro_112_8, ro_112_9, ro_113_0, ro_115_0, ro_117_0, ro_119_0, ro_121_0, ro_123_0, ro_125_0, ro_127_0, ro_129_0, ro_131_0, ro_133_0, ro_133_1, ro_133_2, ro_133_3, ro_133_4, ro_133_5, ro_133_6, ro_133_7, ro_133_8, ro_133_9, ro_134_0, ro_136_0, ro_138_0, ro_140_0, ro_142_0, ro_144_0, ro_146_0, ro_148_0, ro_150_0, ro_152_0, ro_154_0, ro_155_0, ro_157_0, ro_157_1, ro_157_2, ro_157_3, ro_157_4, ro_157_5, ro_157_6, ro_157_7, ro_157_8, ro_157_9, ro_158_0, ro_160_0, ro_162_0, ro_164_0, ro_166_0, ro_168_0, ro_170_0, ro_172_0, ro_174_0, ro_176_0, ro_178_0, ro_180_0, ro_182_1, ro_182_4, ro_182_5, ro_182_6, ro_182_9, ro_182_10, ro_182_11, ro_182_13, ro_182_14, ro_182_15, ro_182_16, ro_182_17, ro_182_20, ro_182_21, ro_182_22, ro_182_23, ro_182_24, ro_182_26, ro_182_27, ro_182_28, lo_3, lo_5, lo_7, lo_9, lo_11, lo_13, lo_15, lo_17, lo_19, lo_21, lo_24, lo_26, lo_28, lo_30, lo_32, lo_34, lo_36, lo_38, lo_40, lo_42, lo_44, lo_47, lo_49, lo_51, lo_54, lo_56, lo_58, lo_60, lo_63, lo_65, lo_67, lo_69, lo_72, lo_74, lo_76, lo_78, lo_80, lo_82, lo_84, lo_86, lo_88, lo_90, lo_93, lo_95, lo_97, lo_99, lo_101, lo_103, lo_105, lo_107, lo_109, lo_111, lo_114, lo_116, lo_118, lo_120, lo_122, lo_124, lo_126, lo_128, lo_130, lo_132, lo_135, lo_137, lo_139, lo_141, lo_143, lo_145, lo_147, lo_149, lo_151, lo_153, lo_156, lo_159, lo_161, lo_163, lo_165, lo_167, lo_169, lo_171, lo_173, lo_175, lo_177, lo_179, lo_181, lo_183, lo_184, lo_185, lo_186, lo_187, lo_188, lo_189, lo_190, lo_191, lo_192, lo_193, lo_194, lo_195, lo_196, lo_197, lo_198, lo_199, lo_200, lo_201, lo_202, lo_203, jp_nn, jp_eq, jp_e1, Classical.not_not, ji0, ji1, ji2, ]
    refine qp_lp (fun en h' => h' = h ∧ ∃ k : Nat, k ≤ l.length ∧ en = [182, a, (l.length : Int), lst (fun k => decide (l[k]? = some (h 186 (h 182 7).toNat))) k, (k : Int)]) ⟨rfl, 0, by omega, rfl⟩ ?_
    intro en h' ⟨e1_w, k, hk, e2_w⟩
    subst e1_w e2_w
    simp only [qe_1, qe_3, qe_4, qe_5, qe_7, qe_72, qe_10, qe_102, qe_13, qe_14, qe_15, qe_16, qe_17, qe_18, qe_20, qe_22, qe_23, qe_21, qe_24, qe_25, qe_26, qe_27, qe_28, qe_30, qe_31, qe_32, qc_20, qc_22, qc_23, qc_21, qc_24, qc_25, qc_26, qc_27, qc_1, qc_3, qc_4, qc_7, qc_13, qc_28, qc_32, qs_1, qs_2, qs_3, qs_4, qs_5, qs_6, qs_9, qs_10, qs_11, qs_14, qs_15, qs_16, qs_27, qs_17, qs_18, qs_19, qs_20, qs_22, qs_23, qs_28, qs_25, qs_26, qs_7, qs_8, kc_1, kn_1, kc_2, kn_2, kc_3, kn_3, kc_4, kn_4, kc_5, kn_5, kc_6, kn_6, kc_7, kn_7, kc_8, kn_8, kc_9, kn_9, kc_10, kn_10, kc_11, kn_11, kc_12, kn_12, kc_13, kn_13, kc_14, kn_14, kc_15, kn_15, kc_16, kc_17, kc_18, kc_19, kc_20, kc_21, kc_22, kc_23, kc_30, kc_32, kc_40, kc_43, kc_45, kc_48, kc_52, kc_56, kc_57, kc_59, kc_60, kc_61, kc_63, kc_64, kc_72, kc_78, kc_97, kc_99, kc_122, kc_126, kc_128, kc_192, kc_200, kc_255, kc_999, kc_1000, kc_9999, kn_9999, kc_10000, kc_12345, kc_65536, kc_252645135, kc_858993459, kc_1103515245, kc_1431655765, kc_2147483647, kc_0, kc_24, kc_28, kc_37, kc_41, kc_42, kc_73, kc_91, kc_95, kc_96, kc_98, kc_100, kc_112, kc_125, kc_150, kc_162, kc_163, kc_168, kc_186, kc_190, kc_250, kc_355, kc_356, kc_404, kc_405, kc_429, kc_573, kc_1002, kc_1100, kc_1891, kc_2200, kc_4719, kc_4869, kc_4881, kc_5148, kc_19741, kc_25433, kc_320403, kc_628412, kc_629093, kc_660401, kc_679843, kc_918640, kc_979410, kc_1178088, kc_6232410, kc_24644941, kc_36238189, kc_38270444, kc_392531318, kc_425693491, kc_1342154595, kc_2147483648, kc_42328242873, kc_891704255789, kc_1722105685577, kc_1858726030364, ct_0, ct_1, ct_2, ct_3, ct_4, ct_5, cf_0, cf_1, cf_2, cf_3, cf_4, cf_5, w_ty6, w_ty7, m_sv, m_z0, m_hd, m_g0, m_gs, m_s0, m_ss, m_ap, m_an, forall_const, true_and, and_true, ne_eq, not_true_eq_false, not_false_eq_true, false_implies, true_implies, implies_true, eq_self, reduceCtorEq, Nat.reduceDiv, Nat.reduceMod, Int.reduceToNat, or_true, true_or, or_false, false_or, or_self, m_it, m_if, m_c1, m_01, m_02, m_03, m_04, m_10, m_12, m_13, m_14, m_20, m_21, m_23, m_24, m_30, m_31, m_32, m_34, m_40, m_41, m_42, m_43, Int.reduceLE, Int.reduceLT, Int.reduceGE, Int.reduceGT, Int.reduceNeg, Int.reduceAdd, Int.reduceSub, Int.reduceMul, Int.reduceEq, Int.reduceNe, Nat.reduceAdd, jun2, ro_0_0, ro_0_1, ro_0_2, ro_0_3, ro_0_4, ro_0_5, ro_0_6, ro_0_7, ro_0_8, ro_0_9, ro_0_10, ro_0_11, ro_0_12, ro_1_0, ro_1_1, ro_2_0, ro_4_0, ro_6_0, ro_6_1, ro_6_2, ro_6_3, ro_6_4, ro_6_5, ro_6_6, ro_6_7, ro_6_8, ro_8_0, ro_10_0, ro_12_0, ro_14_0, ro_16_0, ro_18_0, ro_20_0, ro_22_0, ro_22_1, ro_22_2, ro_23_0, ro_25_0, ro_27_0, ro_29_0, ro_29_1, ro_29_2, ro_29_3, ro_29_4, ro_29_5, ro_29_6, ro_29_7, ro_29_8, ro_31_0, ro_33_0, ro_35_0, ro_37_0, ro_39_0, ro_41_0, ro_43_0, ro_45_0, ro_45_1, ro_45_2, ro_46_0, ro_48_0, ro_50_0, ro_52_0, ro_52_1, ro_52_2, ro_52_3, ro_53_0, ro_55_0, ro_57_0, ro_59_0, ro_61_0, ro_61_1, ro_61_2, ro_61_3, ro_62_0, ro_64_0, ro_66_0, ro_68_0, ro_70_0, ro_70_1, ro_70_2, ro_70_3, ro_70_4, ro_70_5, ro_70_6, ro_70_7, ro_70_8, ro_70_9, ro_71_0, ro_73_0, ro_75_0, ro_77_0, ro_79_0, ro_81_0, ro_83_0, ro_85_0, ro_87_0, ro_89_0, ro_91_0, ro_91_1, ro_91_2, ro_91_3, ro_91_4, ro_91_5, ro_91_6, ro_91_7, ro_91_8, ro_91_9, ro_92_0, ro_94_0, ro_96_0, ro_98_0, ro_100_0, ro_102_0, ro_104_0, ro_106_0, ro_108_0, ro_110_0, ro_112_0, ro_112_1, ro_112_2, ro_112_3, ro_112_4, ro_112_5, ro_112_6, ro_112_7, ro_112_8, ro_112_9, ro_113_0, ro_115_0, ro_117_0, ro_119_0, ro_121_0, ro_123_0, ro_125_0, ro_127_0, ro_129_0, ro_131_0, ro_133_0, ro_133_1, ro_133_2, ro_133_3, ro_133_4, ro_133_5, ro_133_6, ro_133_7, ro_133_8, ro_133_9, ro_134_0, ro_136_0, ro_138_0, ro_140_0, ro_142_0, ro_144_0, ro_146_0, ro_148_0, ro_150_0, ro_152_0, ro_154_0, ro_155_0, ro_157_0, ro_157_1, ro_157_2, ro_157_3, ro_157_4, ro_157_5, ro_157_6, ro_157_7, ro_157_8, ro_157_9, ro_158_0, ro_160_0, ro_162_0, ro_164_0, ro_166_0, ro_168_0, ro_170_0, ro_172_0, ro_174_0, ro_176_0, ro_178_0, ro_180_0, ro_182_1, ro_182_4, ro_182_5, ro_182_6, ro_182_9, ro_182_10, ro_182_11, ro_182_13, ro_182_14, ro_182_15, ro_182_16, ro_182_17, ro_182_20, ro_182_21, ro_182_22, ro_182_23, ro_182_24, ro_182_26, ro_182_27, ro_182_28, lo_3, lo_5, lo_7, lo_9, lo_11, lo_13, lo_15, lo_17, lo_19, lo_21, lo_24, lo_26, lo_28, lo_30, lo_32, lo_34, lo_36, lo_38, lo_40, lo_42, lo_44, lo_47, lo_49, lo_51, lo_54, lo_56, lo_58, lo_60, lo_63, lo_65, lo_67, lo_69, lo_72, lo_74, lo_76, lo_78, lo_80, lo_82, lo_84, lo_86, lo_88, lo_90, lo_93, lo_95, lo_97, lo_99, lo_101, lo_103, lo_105, lo_107, lo_109, lo_111, lo_114, lo_116, lo_118, lo_120, lo_122, lo_124, lo_126, lo_128, lo_130, lo_132, lo_135, lo_137, lo_139, lo_141, lo_143, lo_145, lo_147, lo_149, lo_151, lo_153, lo_156, lo_159, lo_161, lo_163, lo_165, lo_167, lo_169, lo_171, lo_173, lo_175, lo_177, lo_179, lo_181, lo_183, lo_184, lo_185, lo_186, lo_187, lo_188, lo_189, lo_190, lo_191, lo_192, lo_193, lo_194, lo_195, lo_196, lo_197, lo_198, lo_199, lo_200, lo_201, lo_202, lo_203, jp_nn, jp_eq, jp_e1, Classical.not_not, ji0, ji1, ji2, ]
    refine ⟨fun y => ?_, fun y => ?_⟩
    · rw [j32_id (x := a + (k : Int)) (by omega) (by omega), j32_id (x := (k : Int) + 1) (by omega) (by omega)]
      rw [show (a + (k : Int)).toNat = a.toNat + k by omega]
      have hk2 : k < l.length := by omega
      have hv := hl k l[k] (List.getElem?_eq_getElem hk2)
      rw [hv]
      have e : lst (fun k => decide (l[k]? = some (h' 186 (h' 182 7).toNat))) (k + 1) = if l[k] = h' 186 (h' 182 7).toNat then (k : Int) else lst (fun k => decide (l[k]? = some (h' 186 (h' 182 7).toNat))) k := by
        rw [lst]
        simp only [decide_eq_true_eq, List.getElem?_eq_getElem hk2, Option.some.injEq]
      intro _ _
      refine ⟨fun w => ⟨k + 1, by omega, ?_⟩, fun w => ⟨k + 1, by omega, ?_⟩⟩
      · rw [e, if_pos w]
        rfl
      · rw [e, if_neg w]
        rfl
    · have : k = l.length := by omega
      subst this
      exact hQ
  · exact hQ.elim
theorem snd_2 {xs : Nat → Int} {L K : Nat} : ∀ n, SndC CS2 (evF xs L g_ck K g_cW g_M n) := snd_all snd_1 (fun f av h Q hQ => by
  unfold CS2 at hQ
  split at hQ
  · exact Or.inr m_195
  · exact Or.inr m_196
  · exact Or.inr m_201
  · exact Or.inr m_203
  · exact Or.inr m_204
  · exact Or.inl hQ)
end
section
/-! ===== contracts: the reference_w takes_w a sign, a word, a number_w, a name_w ===== -/
/-- the cut_w signs -/
def TK (N : Nat) (h : XH) : Prop := N ≤ 1000 ∧ h 184 N = 0 ∧ (∀ i, i ≤ N → 0 ≤ h 185 i ∧ h 185 i ≤ 1000) ∧ (∀ i, i < N → h 184 i ≠ 0) ∧ (∀ i, i < N → h 184 i = 2 → 0 ≤ h 186 i ∧ h 186 i ≤ 9999)
/-- where the reference_w stands: at a sign, or_w at a fault -/
def St (N : Nat) (x : XZ Nat) (h : XH) : Prop := match x with
  | .error f => h 182 8 = f ∧ 0 < f
  | .ok i => h 182 8 = 0 ∧ h 182 7 = (i : Int) ∧ i ≤ N
def nx {α : Type} (y : XZ (α × Nat)) : XZ Nat := eB y fun a => .ok a.2
def k194 : KT := fun av h Q => match av with
  | [t, c] => t = 182 ∧ ∃ N x, TK N h ∧ St N x h ∧ ∀ h', Fr ([7, 8], []) h h' → St N (eB x (sSgn (h 184) (h 185) (h 186) c)) h' → Q 1 [] h'
  | _ => False
def k197 : KT := fun av h Q => match av with
  | [t, w] => t = 182 ∧ ∃ N x, TK N h ∧ St N x h ∧ ∀ h', Fr ([7, 8], []) h h' → St N (eB x (sWrd (h 184) (h 185) (h 186) (h 187) w.toNat)) h' → Q 1 [] h'
  | _ => False
def k200 : KT := fun av h Q => match av with
  | [t, lo_w, hi_w] => t = 182 ∧ ∃ N x, TK N h ∧ St N x h ∧ ∀ r h', Fr ([7, 8], []) h h' → St N (nx (eB x (sNum (h 184) (h 185) (h 186) lo_w hi_w))) h' → (∀ v j, eB x (sNum (h 184) (h 185) (h 186) lo_w hi_w) = .ok (v, j) → r = v) → Q 1 [r] h'
  | _ => False
def k202 : KT := fun av h Q => match av with
  | [t, a, n] => t = 182 ∧ (0 ≤ a ∧ a ≤ 1000 ∧ 0 ≤ n ∧ n ≤ 1000) ∧ ∃ N x, TK N h ∧ St N x h ∧ ∀ r h', Fr ([7, 8], []) h h' → St N (nx (eB x (sOne (h 184) (h 185) (h 186) (h 187) a.toNat n.toNat))) h' → (∀ v j, eB x (sOne (h 184) (h 185) (h 186) (h 187) a.toNat n.toNat) = .ok (v, j) → r = v) → Q 1 [r] h'
  | _ => False
def k205 : KT := fun av h Q => match av with
  | [t, a, n] => t = 182 ∧ ∃ l : List Int, n = (l.length : Int) ∧ 0 ≤ a ∧ a ≤ 1000 ∧ l.length ≤ 1000 ∧ (∀ k v, l[k]? = some v → h 190 (a.toNat + k) = v) ∧ ∃ N x, TK N h ∧ St N x h ∧ ∀ r h', Fr ([7, 8], []) h h' → St N (nx (eB x (sTold (h 184) (h 185) (h 186) (h 187) l))) h' → (∀ v j, eB x (sTold (h 184) (h 185) (h 186) (h 187) l) = .ok (v, j) → r = v) → Q 1 [r] h'
  | _ => False
section KK3
theorem ju {h : XH} {a b c d : Nat} {v : Int} : j_up h a b v c d = if c = a ∧ d = b then v else h c d := id rfl
theorem jr {h : XH} {a b c : Nat} {v : Int} (e : c ≠ a) : j_up h a b v c = h c := funext fun d => if_neg (fun z => e z.1)
theorem jpT [Decidable True] : jp True = 1 := jp_t trivial
theorem jpF [Decidable False] : jp False = 0 := jp_f (fun z => z)
theorem tnc {n : Nat} : ((n : Nat) : Int).toNat = n := id rfl
variable {h h' : XH} {Q : Nat → List Int → XH → Prop} {a n c w lo_w hi_w : Int} {N : Nat} {x : XZ Nat}
theorem kk_194 : k194 [182, c] h Q = ∃ N x, TK N h ∧ St N x h ∧ ∀ h', Fr ([7, 8], []) h h' → St N (eB x (sSgn (h 184) (h 185) (h 186) c)) h' → Q 1 [] h' := propext ⟨fun a => a.2, fun a => ⟨rfl, a⟩⟩
theorem kk_197 : k197 [182, w] h Q = ∃ N x, TK N h ∧ St N x h ∧ ∀ h', Fr ([7, 8], []) h h' → St N (eB x (sWrd (h 184) (h 185) (h 186) (h 187) w.toNat)) h' → Q 1 [] h' := propext ⟨fun a => a.2, fun a => ⟨rfl, a⟩⟩
theorem kk_200 : k200 [182, lo_w, hi_w] h Q = ∃ N x, TK N h ∧ St N x h ∧ ∀ r h', Fr ([7, 8], []) h h' → St N (nx (eB x (sNum (h 184) (h 185) (h 186) lo_w hi_w))) h' → (∀ v j, eB x (sNum (h 184) (h 185) (h 186) lo_w hi_w) = .ok (v, j) → r = v) → Q 1 [r] h' := propext ⟨fun a => a.2, fun a => ⟨rfl, a⟩⟩
theorem kk_202 : k202 [182, a, n] h Q = ((0 ≤ a ∧ a ≤ 1000 ∧ 0 ≤ n ∧ n ≤ 1000) ∧ ∃ N x, TK N h ∧ St N x h ∧ ∀ r h', Fr ([7, 8], []) h h' → St N (nx (eB x (sOne (h 184) (h 185) (h 186) (h 187) a.toNat n.toNat))) h' → (∀ v j, eB x (sOne (h 184) (h 185) (h 186) (h 187) a.toNat n.toNat) = .ok (v, j) → r = v) → Q 1 [r] h') := propext ⟨fun a => a.2, fun a => ⟨rfl, a⟩⟩
theorem kk_205 : k205 [182, a, n] h Q = ∃ l : List Int, n = (l.length : Int) ∧ 0 ≤ a ∧ a ≤ 1000 ∧ l.length ≤ 1000 ∧ (∀ k v, l[k]? = some v → h 190 (a.toNat + k) = v) ∧ ∃ N x, TK N h ∧ St N x h ∧ ∀ r h', Fr ([7, 8], []) h h' → St N (nx (eB x (sTold (h 184) (h 185) (h 186) (h 187) l))) h' → (∀ v j, eB x (sTold (h 184) (h 185) (h 186) (h 187) l) = .ok (v, j) → r = v) → Q 1 [r] h' := propext ⟨fun a => a.2, fun a => ⟨rfl, a⟩⟩
theorem Fr.row {w : List Nat × List Nat} {o : Nat} (a : Fr w h h') (e : w.2.contains o = false) (e2_w : o ≠ 182) : h' o = h o := funext fun k => a o k (fun z => absurd z e2_w) e
theorem TK.fr {w : List Nat × List Nat} (t : TK N h) (a : Fr w h h') (e4_w : w.2.contains 184 = false) (e5_w : w.2.contains 185 = false) (e6_w : w.2.contains 186 = false) : TK N h' := by
  unfold TK
  rw [a.row e4_w (by decide), a.row e5_w (by decide), a.row e6_w (by decide)]
  exact t
/-- what is_w said_w of a fault -/
theorem wr_ev (t : TK N h) {i : Nat} (hi_w : i ≤ N) (h1 : 1 ≤ c) (h2 : c ≤ 15) : j32 (c + j32 (16 * h 185 i)) = er (h 185) c i ∧ 0 < er (h 185) c i := by
  have b := t.2.2.1 i hi_w
  unfold er
  rw [j32_id (x := 16 * h 185 i) (by omega) (by omega), j32_id (by omega) (by omega)]
  exact ⟨rfl, by omega⟩
theorem f78 {v : Int} : Fr ([7, 8], []) h (j_up h 182 7 v) := Fr.fld rfl
theorem f78' {v : Int} : Fr ([7, 8], []) h (j_up h 182 8 v) := Fr.fld rfl
theorem st_at (t : TK N h) {i : Nat} (hi_w : i ≤ N) (hn : h 184 i ≠ 0) : i < N := by
  rcases Nat.lt_or_eq_of_le hi_w with z | z
  · exact z
  · subst z
    exact absurd t.2.1 hn
/-- one sign further -/
theorem st_nx (t : TK N h) {i : Nat} (h8 : h 182 8 = 0) (h7 : h 182 7 = (i : Int)) (hi_w : i < N) : St N (.ok (i + 1)) (j_up h 182 7 (j32 (h 182 7 + 1))) := by
  have tn_w := t.1
  refine ⟨(up_ne (fun z => absurd z.2 (by decide))).trans h8, ?_, hi_w⟩
  rw [up_eq, h7, j32_id (by omega) (by omega)]
  omega
theorem st_wr (t : TK N h) {i : Nat} (hi_w : i ≤ N) (h1 : 1 ≤ c) (h2 : c ≤ 15) : St N (.error (er (h 185) c i)) (j_up h 182 8 (j32 (c + j32 (16 * h 185 i)))) := by
  obtain ⟨e1_w, e2_w⟩ := wr_ev t hi_w h1 h2
  exact ⟨up_eq.trans e1_w, e2_w⟩
end KK3
def CS3 : CSt := fun f => match f with
  | 194 => k194
  | 197 => k197
  | 200 => k200
  | 202 => k202
  | 205 => k205
  | _ => CS2 f
theorem cs3_191 {av : List Int} {h : XH} {Q : Nat → List Int → XH → Prop} : CS3 191 av h Q = k191 av h Q := id rfl
theorem cs3_192 {av : List Int} {h : XH} {Q : Nat → List Int → XH → Prop} : CS3 192 av h Q = k192 av h Q := id rfl
theorem cs3_196 {av : List Int} {h : XH} {Q : Nat → List Int → XH → Prop} : CS3 196 av h Q = k196 av h Q := id rfl
theorem cs3_201 {av : List Int} {h : XH} {Q : Nat → List Int → XH → Prop} : CS3 201 av h Q = k201 av h Q := id rfl
theorem cs3_203 {av : List Int} {h : XH} {Q : Nat → List Int → XH → Prop} : CS3 203 av h Q = k203 av h Q := id rfl
theorem cs3_204 {av : List Int} {h : XH} {Q : Nat → List Int → XH → Prop} : CS3 204 av h Q = k204 av h Q := id rfl
theorem cs3_194 {av : List Int} {h : XH} {Q : Nat → List Int → XH → Prop} : CS3 194 av h Q = k194 av h Q := id rfl
theorem cs3_197 {av : List Int} {h : XH} {Q : Nat → List Int → XH → Prop} : CS3 197 av h Q = k197 av h Q := id rfl
theorem cs3_200 {av : List Int} {h : XH} {Q : Nat → List Int → XH → Prop} : CS3 200 av h Q = k200 av h Q := id rfl
theorem cs3_202 {av : List Int} {h : XH} {Q : Nat → List Int → XH → Prop} : CS3 202 av h Q = k202 av h Q := id rfl
theorem cs3_205 {av : List Int} {h : XH} {Q : Nat → List Int → XH → Prop} : CS3 205 av h Q = k205 av h Q := id rfl
theorem m_194 : BodyOK CS3 CS3 194 := fun av h Q hQ => by
  rw [cs3_194] at hQ
  unfold k194 at hQ
  split at hQ
  · rename_i t c
    obtain ⟨rfl, N, x, tk, st, hQ⟩ := hQ
    show pS CS3 bb_194 [182, c] h _
    unfold bb_194
    simp only [qe_1, qe_3, qe_4, qe_5, qe_7, qe_72, qe_10, qe_102, qe_13, qe_14, qe_15, qe_16, qe_17, qe_18, qe_20, qe_22, qe_23, qe_21, qe_24, qe_25, qe_26, qe_27, qe_28, qe_30, qe_31, qe_32, qc_20, qc_22, qc_23, qc_21, qc_24, qc_25, qc_26, qc_27, qc_1, qc_3, qc_4, qc_7, qc_13, qc_28, qc_32, qs_1, qs_2, qs_3, qs_4, qs_5, qs_6, qs_9, qs_10, qs_11, qs_14, qs_15, qs_16, qs_27, qs_17, qs_18, qs_19, qs_20, qs_22, qs_23, qs_28, qs_25, qs_26, qs_7, qs_8, kc_1, kn_1, kc_2, kn_2, kc_3, kn_3, kc_4, kn_4, kc_5, kn_5, kc_6, kn_6, kc_7, kn_7, kc_8, kn_8, kc_9, kn_9, kc_10, kn_10, kc_11, kn_11, kc_12, kn_12, kc_13, kn_13, kc_14, kn_14, kc_15, kn_15, kc_16, kc_17, kc_18, kc_19, kc_20, kc_21, kc_22, kc_23, kc_30, kc_32, kc_40, kc_43, kc_45, kc_48, kc_52, kc_56, kc_57, kc_59, kc_60, kc_61, kc_63, kc_64, kc_72, kc_78, kc_97, kc_99, kc_122, kc_126, kc_128, kc_192, kc_200, kc_255, kc_999, kc_1000, kc_9999, kn_9999, kc_10000, kc_12345, kc_65536, kc_252645135, kc_858993459, kc_1103515245, kc_1431655765, kc_2147483647, kc_0, kc_24, kc_28, kc_37, kc_41, kc_42, kc_73, kc_91, kc_95, kc_96, kc_98, kc_100, kc_112, kc_125, kc_150, kc_162, kc_163, kc_168, kc_186, kc_190, kc_250, kc_355, kc_356, kc_404, kc_405, kc_429, kc_573, kc_1002, kc_1100, kc_1891, kc_2200, kc_4719, kc_4869, kc_4881, kc_5148, kc_19741, kc_25433, kc_320403, kc_628412, kc_629093, kc_660401, kc_679843, kc_918640, kc_979410, kc_1178088, kc_6232410, kc_24644941, kc_36238189, kc_38270444, kc_392531318, kc_425693491, kc_1342154595, kc_2147483648, kc_42328242873, kc_891704255789, kc_1722105685577, kc_1858726030364, ct_0, ct_1, ct_2, ct_3, ct_4, ct_5, cf_0, cf_1, cf_2, cf_3, cf_4, cf_5, w_ty6, w_ty7, m_sv, m_z0, m_hd, m_g0, m_gs, m_s0, m_ss, m_ap, m_an, forall_const, true_and, and_true, ne_eq, not_true_eq_false, not_false_eq_true, false_implies, true_implies, implies_true, eq_self, reduceCtorEq, Nat.reduceDiv, Nat.reduceMod, Int.reduceToNat, or_true, true_or, or_false, false_or, or_self, m_it, m_if, m_c1, m_01, m_02, m_03, m_04, m_10, m_12, m_13, m_14, m_20, m_21, m_23, m_24, m_30, m_31, m_32, m_34, m_40, m_41, m_42, m_43, Int.reduceLE, Int.reduceLT, Int.reduceGE, Int.reduceGT, Int.reduceNeg, Int.reduceAdd, Int.reduceSub, Int.reduceMul, Int.reduceEq, Int.reduceNe, Nat.reduceAdd, jun2, ro_0_0, ro_0_1, ro_0_2, ro_0_3, ro_0_4, ro_0_5, ro_0_6, ro_0_7, ro_0_8, ro_0_9, ro_0_10, ro_0_11, ro_0_12, ro_1_0, ro_1_1, ro_2_0, ro_4_0, ro_6_0, ro_6_1, ro_6_2, ro_6_3, ro_6_4, ro_6_5, ro_6_6, ro_6_7, ro_6_8, ro_8_0, ro_10_0, ro_12_0, ro_14_0, ro_16_0, ro_18_0, ro_20_0, ro_22_0, ro_22_1, ro_22_2, ro_23_0, ro_25_0, ro_27_0, ro_29_0, ro_29_1, ro_29_2, ro_29_3, ro_29_4, ro_29_5, ro_29_6, ro_29_7, ro_29_8, ro_31_0, ro_33_0, ro_35_0, ro_37_0, ro_39_0, ro_41_0, ro_43_0, ro_45_0, ro_45_1, ro_45_2, ro_46_0, ro_48_0, ro_50_0, ro_52_0, ro_52_1, ro_52_2, ro_52_3, ro_53_0, ro_55_0, ro_57_0, ro_59_0, ro_61_0, ro_61_1, ro_61_2, ro_61_3, ro_62_0, ro_64_0, ro_66_0, ro_68_0, ro_70_0, ro_70_1, ro_70_2, ro_70_3, ro_70_4, ro_70_5, ro_70_6, ro_70_7, ro_70_8, ro_70_9, ro_71_0, ro_73_0, ro_75_0, ro_77_0, ro_79_0, ro_81_0, ro_83_0, ro_85_0, ro_87_0, ro_89_0, ro_91_0, ro_91_1, ro_91_2, ro_91_3, ro_91_4, ro_91_5, ro_91_6, ro_91_7, ro_91_8, ro_91_9, ro_92_0, ro_94_0, ro_96_0, ro_98_0, ro_100_0, ro_102_0, ro_104_0, ro_106_0, ro_108_0, ro_110_0, ro_112_0, ro_112_1, ro_112_2, ro_112_3, ro_112_4, ro_112_5, ro_112_6, ro_112_7, ro_112_8, ro_112_9, ro_113_0, ro_115_0, ro_117_0, ro_119_0, ro_121_0, ro_123_0, ro_125_0, ro_127_0, ro_129_0, ro_131_0, ro_133_0, ro_133_1, ro_133_2, ro_133_3, ro_133_4, ro_133_5, ro_133_6, ro_133_7, ro_133_8, ro_133_9, ro_134_0, ro_136_0, ro_138_0, ro_140_0, ro_142_0, ro_144_0, ro_146_0, ro_148_0, ro_150_0, ro_152_0, ro_154_0, ro_155_0, ro_157_0, ro_157_1, ro_157_2, ro_157_3, ro_157_4, ro_157_5, ro_157_6, ro_157_7, ro_157_8, ro_157_9, ro_158_0, ro_160_0, ro_162_0, ro_164_0, ro_166_0, ro_168_0, ro_170_0, ro_172_0, ro_174_0, ro_176_0, ro_178_0, ro_180_0, ro_182_1, ro_182_4, ro_182_5, ro_182_6, ro_182_9, ro_182_10, ro_182_11, ro_182_13, ro_182_14, ro_182_15, ro_182_16, ro_182_17, ro_182_20, ro_182_21, ro_182_22, ro_182_23, ro_182_24, ro_182_26, ro_182_27, ro_182_28, lo_3, lo_5, lo_7, lo_9, lo_11, lo_13, lo_15, lo_17, lo_19, lo_21, lo_24, lo_26, lo_28, lo_30, lo_32, lo_34, lo_36, lo_38, lo_40, lo_42, lo_44, lo_47, lo_49, lo_51, lo_54, lo_56, lo_58, lo_60, lo_63, lo_65, lo_67, lo_69, lo_72, lo_74, lo_76, lo_78, lo_80, lo_82, lo_84, lo_86, lo_88, lo_90, lo_93, lo_95, lo_97, lo_99, lo_101, lo_103, lo_105, lo_107, lo_109, lo_111, lo_114, lo_116, lo_118, lo_120, lo_122, lo_124, lo_126, lo_128, lo_130, lo_132, lo_135, lo_137, lo_139, lo_141, lo_143, lo_145, lo_147, lo_149, lo_151, lo_153, lo_156, lo_159, lo_161, lo_163, lo_165, lo_167, lo_169, lo_171, lo_173, lo_175, lo_177, lo_179, lo_181, lo_183, lo_184, lo_185, lo_186, lo_187, lo_188, lo_189, lo_190, lo_191, lo_192, lo_193, lo_194, lo_195, lo_196, lo_197, lo_198, lo_199, lo_200, lo_201, lo_202, lo_203, jp_nn, jp_eq, jp_e1, Classical.not_not, ji0, ji1, ji2, cs3_191, kk_191, cs3_192, kk_192]
    match x, st with
    | .error f, st =>
      have e8 : h 182 8 ≠ 0 := by have := st.1; have := st.2; omega
      refine ⟨fun y => absurd y.1 e8, fun _ => ?_⟩
      rw [if_neg e8]
      exact hQ h Fr.rf st
    | .ok i, st =>
      obtain ⟨e8, e7_w, hi_w⟩ := st
      have ei : (h 182 7).toNat = i := by omega
      rw [ei]
      refine ⟨fun y => ?_, fun y => ?_⟩
      · refine hQ _ f78 ?_
        show St N (sSgn (h 184) (h 185) (h 186) c i) _
        unfold sSgn
        rw [if_pos y.2]
        exact st_nx tk e8 e7_w (st_at tk hi_w (by have := y.2.1; omega))
      · rw [if_pos e8]
        refine hQ _ f78' ?_
        show St N (sSgn (h 184) (h 185) (h 186) c i) _
        unfold sSgn
        rw [if_neg (fun z => y ⟨e8, z⟩)]
        exact st_wr tk hi_w (by decide) (by decide)
  · exact hQ.elim
theorem m_197 : BodyOK CS3 CS3 197 := fun av h Q hQ => by
  rw [cs3_197] at hQ
  unfold k197 at hQ
  split at hQ
  · rename_i t w
    obtain ⟨rfl, N, x, tk, st, hQ⟩ := hQ
    show pS CS3 bb_197 [182, w] h _
    match x, st with
    | .error f, st =>
      have g1 : 0 < h 182 8 := by have := st.1; have := st.2; omega
      have g2 : ¬ h 182 8 = 0 := by omega
      have g3_w : ¬ h 182 8 ≤ 0 := by omega
      unfold bb_197
      simp only [qe_1, qe_3, qe_4, qe_5, qe_7, qe_72, qe_10, qe_102, qe_13, qe_14, qe_15, qe_16, qe_17, qe_18, qe_20, qe_22, qe_23, qe_21, qe_24, qe_25, qe_26, qe_27, qe_28, qe_30, qe_31, qe_32, qc_20, qc_22, qc_23, qc_21, qc_24, qc_25, qc_26, qc_27, qc_1, qc_3, qc_4, qc_7, qc_13, qc_28, qc_32, qs_1, qs_2, qs_3, qs_4, qs_5, qs_6, qs_9, qs_10, qs_11, qs_14, qs_15, qs_16, qs_27, qs_17, qs_18, qs_19, qs_20, qs_22, qs_23, qs_28, qs_25, qs_26, qs_7, qs_8, kc_1, kn_1, kc_2, kn_2, kc_3, kn_3, kc_4, kn_4, kc_5, kn_5, kc_6, kn_6, kc_7, kn_7, kc_8, kn_8, kc_9, kn_9, kc_10, kn_10, kc_11, kn_11, kc_12, kn_12, kc_13, kn_13, kc_14, kn_14, kc_15, kn_15, kc_16, kc_17, kc_18, kc_19, kc_20, kc_21, kc_22, kc_23, kc_30, kc_32, kc_40, kc_43, kc_45, kc_48, kc_52, kc_56, kc_57, kc_59, kc_60, kc_61, kc_63, kc_64, kc_72, kc_78, kc_97, kc_99, kc_122, kc_126, kc_128, kc_192, kc_200, kc_255, kc_999, kc_1000, kc_9999, kn_9999, kc_10000, kc_12345, kc_65536, kc_252645135, kc_858993459, kc_1103515245, kc_1431655765, kc_2147483647, kc_0, kc_24, kc_28, kc_37, kc_41, kc_42, kc_73, kc_91, kc_95, kc_96, kc_98, kc_100, kc_112, kc_125, kc_150, kc_162, kc_163, kc_168, kc_186, kc_190, kc_250, kc_355, kc_356, kc_404, kc_405, kc_429, kc_573, kc_1002, kc_1100, kc_1891, kc_2200, kc_4719, kc_4869, kc_4881, kc_5148, kc_19741, kc_25433, kc_320403, kc_628412, kc_629093, kc_660401, kc_679843, kc_918640, kc_979410, kc_1178088, kc_6232410, kc_24644941, kc_36238189, kc_38270444, kc_392531318, kc_425693491, kc_1342154595, kc_2147483648, kc_42328242873, kc_891704255789, kc_1722105685577, kc_1858726030364, ct_0, ct_1, ct_2, ct_3, ct_4, ct_5, cf_0, cf_1, cf_2, cf_3, cf_4, cf_5, w_ty6, w_ty7, m_sv, m_z0, m_hd, m_g0, m_gs, m_s0, m_ss, m_ap, m_an, forall_const, true_and, and_true, ne_eq, not_true_eq_false, not_false_eq_true, false_implies, true_implies, implies_true, eq_self, reduceCtorEq, Nat.reduceDiv, Nat.reduceMod, Int.reduceToNat, or_true, true_or, or_false, false_or, or_self, m_it, m_if, m_c1, m_01, m_02, m_03, m_04, m_10, m_12, m_13, m_14, m_20, m_21, m_23, m_24, m_30, m_31, m_32, m_34, m_40, m_41, m_42, m_43, Int.reduceLE, Int.reduceLT, Int.reduceGE, Int.reduceGT, Int.reduceNeg, Int.reduceAdd, Int.reduceSub, Int.reduceMul, Int.reduceEq, Int.reduceNe, Nat.reduceAdd, jun2, ro_0_0, ro_0_1, ro_0_2, ro_0_3, ro_0_4, ro_0_5, ro_0_6, ro_0_7, ro_0_8, ro_0_9, ro_0_10, ro_0_11, ro_0_12, ro_1_0, ro_1_1, ro_2_0, ro_4_0, ro_6_0, ro_6_1, ro_6_2, ro_6_3, ro_6_4, ro_6_5, ro_6_6, ro_6_7, ro_6_8, ro_8_0, ro_10_0, ro_12_0, ro_14_0, ro_16_0, ro_18_0, ro_20_0, ro_22_0, ro_22_1, ro_22_2, ro_23_0, ro_25_0, ro_27_0, ro_29_0, ro_29_1, ro_29_2, ro_29_3, ro_29_4, ro_29_5, ro_29_6, ro_29_7, ro_29_8, ro_31_0, ro_33_0, ro_35_0, ro_37_0, ro_39_0, ro_41_0, ro_43_0, ro_45_0, ro_45_1, ro_45_2, ro_46_0, ro_48_0, ro_50_0, ro_52_0, ro_52_1, ro_52_2, ro_52_3, ro_53_0, ro_55_0, ro_57_0, ro_59_0, ro_61_0, ro_61_1, ro_61_2, ro_61_3, ro_62_0, ro_64_0, ro_66_0, ro_68_0, ro_70_0, ro_70_1, ro_70_2, ro_70_3, ro_70_4, ro_70_5, ro_70_6, ro_70_7, ro_70_8, ro_70_9, ro_71_0, ro_73_0, ro_75_0, ro_77_0, ro_79_0, ro_81_0, ro_83_0, ro_85_0, ro_87_0, ro_89_0, ro_91_0, ro_91_1, ro_91_2, ro_91_3, ro_91_4, ro_91_5, ro_91_6, ro_91_7, ro_91_8, ro_91_9, ro_92_0, ro_94_0, ro_96_0, ro_98_0, ro_100_0, ro_102_0, ro_104_0, ro_106_0, ro_108_0, ro_110_0, ro_112_0, ro_112_1, ro_112_2, ro_112_3, ro_112_4, ro_112_5, ro_112_6, ro_112_7, ro_112_8, ro_112_9, ro_113_0, ro_115_0, ro_117_0, ro_119_0, ro_121_0, ro_123_0, ro_125_0, ro_127_0, ro_129_0, ro_131_0, ro_133_0, ro_133_1, ro_133_2, ro_133_3, ro_133_4, ro_133_5, ro_133_6, ro_133_7, ro_133_8, ro_133_9, ro_134_0, ro_136_0, ro_138_0, ro_140_0, ro_142_0, ro_144_0, ro_146_0, ro_148_0, ro_150_0, ro_152_0, ro_154_0, ro_155_0, ro_157_0, ro_157_1, ro_157_2, ro_157_3, ro_157_4, ro_157_5, ro_157_6, ro_157_7, ro_157_8, ro_157_9, ro_158_0, ro_160_0, ro_162_0, ro_164_0, ro_166_0, ro_168_0, ro_170_0, ro_172_0, ro_174_0, ro_176_0, ro_178_0, ro_180_0, ro_182_1, ro_182_4, ro_182_5, ro_182_6, ro_182_9, ro_182_10, ro_182_11, ro_182_13, ro_182_14, ro_182_15, ro_182_16, ro_182_17, ro_182_20, ro_182_21, ro_182_22, ro_182_23, ro_182_24, ro_182_26, ro_182_27, ro_182_28, lo_3, lo_5, lo_7, lo_9, lo_11, lo_13, lo_15, lo_17, lo_19, lo_21, lo_24, lo_26, lo_28, lo_30, lo_32, lo_34, lo_36, lo_38, lo_40, lo_42, lo_44, lo_47, lo_49, lo_51, lo_54, lo_56, lo_58, lo_60, lo_63, lo_65, lo_67, lo_69, lo_72, lo_74, lo_76, lo_78, lo_80, lo_82, lo_84, lo_86, lo_88, lo_90, lo_93, lo_95, lo_97, lo_99, lo_101, lo_103, lo_105, lo_107, lo_109, lo_111, lo_114, lo_116, lo_118, lo_120, lo_122, lo_124, lo_126, lo_128, lo_130, lo_132, lo_135, lo_137, lo_139, lo_141, lo_143, lo_145, lo_147, lo_149, lo_151, lo_153, lo_156, lo_159, lo_161, lo_163, lo_165, lo_167, lo_169, lo_171, lo_173, lo_175, lo_177, lo_179, lo_181, lo_183, lo_184, lo_185, lo_186, lo_187, lo_188, lo_189, lo_190, lo_191, lo_192, lo_193, lo_194, lo_195, lo_196, lo_197, lo_198, lo_199, lo_200, lo_201, lo_202, lo_203, jp_nn, jp_eq, jp_e1, Classical.not_not, ji0, ji1, ji2, cs3_191, kk_191, cs3_196, kk_196, jl_0, jl_1, jl_2, jl_3, jl_4, jl_5, jl_6, jl_7, jl_8, jl_9, jl_10, jl_11, jl_12, jl_13, jl_14, jl_15, jl_16, jl_17, jl_18, jl_19, jl_20, jl_21, jl_22, jl_23, jl_24, jl_25, jl_26, jl_27, jl_28, jl_29, jl_30, jl_31, jl_32, jl_33, jl_34, jl_35, jl_36, jl_37, jl_38, jl_39, jl_40, jl_95, jl_96, jl_97, jl_98, jl_99, jl_100, jl_101, jl_102, jl_103, jl_104, jl_105, jl_106, jl_107, jl_108, jl_109, jl_110, jl_111, jl_112, jl_113, jl_114, jl_186, jl_1100, jr, ju, jpT, jpF, tnc, Nat.reduceEqDiff, reduceIte, and_false, false_and, not_true_eq_false, not_false_eq_true, or_false, gt_iff_lt, ge_iff_le, Int.lt_irrefl, Int.le_refl, g1, g2, g3_w]
      exact hQ _ f78 ⟨(up_ne (fun z => absurd z.2 (by decide))).trans st.1, st.2⟩
    | .ok i, st =>
      obtain ⟨e8, e7_w, hn⟩ := st
      have tn_w := tk.1
      have e32 : j32 ((i : Int) + 1) = ((i + 1 : Nat) : Int) := by
        rw [j32_id (by omega) (by omega)]
        omega
      have e30 : j32 ((i : Int) + 0) = (i : Int) := by
        rw [j32_id (by omega) (by omega)]
        omega
      have e31_w : j32 (((i + 1 : Nat) : Int) - 1) = (i : Int) := by
        rw [j32_id (by omega) (by omega)]
        omega
      obtain ⟨w1_w, v1_w⟩ := wr_ev (c := 1) tk hn (by decide) (by decide)
      obtain ⟨w2_w, v2⟩ := wr_ev (c := 2) tk hn (by decide) (by decide)
      obtain ⟨w4_w, v4_w⟩ := wr_ev (c := 4) tk hn (by decide) (by decide)
      have u1 : ¬ er (h 185) 1 i ≤ 0 := by omega
      have u2_w : ¬ er (h 185) 2 i ≤ 0 := by omega
      have u4_w : ¬ er (h 185) 4 i ≤ 0 := by omega
      by_cases y : sWd (h 184) (h 186) (h 187) w.toNat i
      · have lt := st_at tk hn (by have := y.1; omega)
        unfold bb_197
        simp only [qe_1, qe_3, qe_4, qe_5, qe_7, qe_72, qe_10, qe_102, qe_13, qe_14, qe_15, qe_16, qe_17, qe_18, qe_20, qe_22, qe_23, qe_21, qe_24, qe_25, qe_26, qe_27, qe_28, qe_30, qe_31, qe_32, qc_20, qc_22, qc_23, qc_21, qc_24, qc_25, qc_26, qc_27, qc_1, qc_3, qc_4, qc_7, qc_13, qc_28, qc_32, qs_1, qs_2, qs_3, qs_4, qs_5, qs_6, qs_9, qs_10, qs_11, qs_14, qs_15, qs_16, qs_27, qs_17, qs_18, qs_19, qs_20, qs_22, qs_23, qs_28, qs_25, qs_26, qs_7, qs_8, kc_1, kn_1, kc_2, kn_2, kc_3, kn_3, kc_4, kn_4, kc_5, kn_5, kc_6, kn_6, kc_7, kn_7, kc_8, kn_8, kc_9, kn_9, kc_10, kn_10, kc_11, kn_11, kc_12, kn_12, kc_13, kn_13, kc_14, kn_14, kc_15, kn_15, kc_16, kc_17, kc_18, kc_19, kc_20, kc_21, kc_22, kc_23, kc_30, kc_32, kc_40, kc_43, kc_45, kc_48, kc_52, kc_56, kc_57, kc_59, kc_60, kc_61, kc_63, kc_64, kc_72, kc_78, kc_97, kc_99, kc_122, kc_126, kc_128, kc_192, kc_200, kc_255, kc_999, kc_1000, kc_9999, kn_9999, kc_10000, kc_12345, kc_65536, kc_252645135, kc_858993459, kc_1103515245, kc_1431655765, kc_2147483647, kc_0, kc_24, kc_28, kc_37, kc_41, kc_42, kc_73, kc_91, kc_95, kc_96, kc_98, kc_100, kc_112, kc_125, kc_150, kc_162, kc_163, kc_168, kc_186, kc_190, kc_250, kc_355, kc_356, kc_404, kc_405, kc_429, kc_573, kc_1002, kc_1100, kc_1891, kc_2200, kc_4719, kc_4869, kc_4881, kc_5148, kc_19741, kc_25433, kc_320403, kc_628412, kc_629093, kc_660401, kc_679843, kc_918640, kc_979410, kc_1178088, kc_6232410, kc_24644941, kc_36238189, kc_38270444, kc_392531318, kc_425693491, kc_1342154595, kc_2147483648, kc_42328242873, kc_891704255789, kc_1722105685577, kc_1858726030364, ct_0, ct_1, ct_2, ct_3, ct_4, ct_5, cf_0, cf_1, cf_2, cf_3, cf_4, cf_5, w_ty6, w_ty7, m_sv, m_z0, m_hd, m_g0, m_gs, m_s0, m_ss, m_ap, m_an, forall_const, true_and, and_true, ne_eq, not_true_eq_false, not_false_eq_true, false_implies, true_implies, implies_true, eq_self, reduceCtorEq, Nat.reduceDiv, Nat.reduceMod, Int.reduceToNat, or_true, true_or, or_false, false_or, or_self, m_it, m_if, m_c1, m_01, m_02, m_03, m_04, m_10, m_12, m_13, m_14, m_20, m_21, m_23, m_24, m_30, m_31, m_32, m_34, m_40, m_41, m_42, m_43, Int.reduceLE, Int.reduceLT, Int.reduceGE, Int.reduceGT, Int.reduceNeg, Int.reduceAdd, Int.reduceSub, Int.reduceMul, Int.reduceEq, Int.reduceNe, Nat.reduceAdd, jun2, ro_0_0, ro_0_1, ro_0_2, ro_0_3, ro_0_4, ro_0_5, ro_0_6, ro_0_7, ro_0_8, ro_0_9, ro_0_10, ro_0_11, ro_0_12, ro_1_0, ro_1_1, ro_2_0, ro_4_0, ro_6_0, ro_6_1, ro_6_2, ro_6_3, ro_6_4, ro_6_5, ro_6_6, ro_6_7, ro_6_8, ro_8_0, ro_10_0, ro_12_0, ro_14_0, ro_16_0, ro_18_0, ro_20_0, ro_22_0, ro_22_1, ro_22_2, ro_23_0, ro_25_0, ro_27_0, ro_29_0, ro_29_1, ro_29_2, ro_29_3, ro_29_4, ro_29_5, ro_29_6, ro_29_7, ro_29_8, ro_31_0, ro_33_0, ro_35_0, ro_37_0, ro_39_0, ro_41_0, ro_43_0, ro_45_0, ro_45_1, ro_45_2, ro_46_0, ro_48_0, ro_50_0, ro_52_0, ro_52_1, ro_52_2, ro_52_3, ro_53_0, ro_55_0, ro_57_0, ro_59_0, ro_61_0, ro_61_1, ro_61_2, ro_61_3, ro_62_0, ro_64_0, ro_66_0, ro_68_0, ro_70_0, ro_70_1, ro_70_2, ro_70_3, ro_70_4, ro_70_5, ro_70_6, ro_70_7, ro_70_8, ro_70_9, ro_71_0, ro_73_0, ro_75_0, ro_77_0, ro_79_0, ro_81_0, ro_83_0, ro_85_0, ro_87_0, ro_89_0, ro_91_0, ro_91_1, ro_91_2, ro_91_3, ro_91_4, ro_91_5, ro_91_6, ro_91_7, ro_91_8, ro_91_9, ro_92_0, ro_94_0, ro_96_0, ro_98_0, ro_100_0, ro_102_0, ro_104_0, ro_106_0, ro_108_0, ro_110_0, ro_112_0, ro_112_1, ro_112_2, ro_112_3, ro_112_4, ro_112_5, ro_112_6, ro_112_7, ro_112_8, ro_112_9, ro_113_0, ro_115_0, ro_117_0, ro_119_0, ro_121_0, ro_123_0, ro_125_0, ro_127_0, ro_129_0, ro_131_0, ro_133_0, ro_133_1, ro_133_2, ro_133_3, ro_133_4, ro_133_5, ro_133_6, ro_133_7, ro_133_8, ro_133_9, ro_134_0, ro_136_0, ro_138_0, ro_140_0, ro_142_0, ro_144_0, ro_146_0, ro_148_0, ro_150_0, ro_152_0, ro_154_0, ro_155_0, ro_157_0, ro_157_1, ro_157_2, ro_157_3, ro_157_4, ro_157_5, ro_157_6, ro_157_7, ro_157_8, ro_157_9, ro_158_0, ro_160_0, ro_162_0, ro_164_0, ro_166_0, ro_168_0, ro_170_0, ro_172_0, ro_174_0, ro_176_0, ro_178_0, ro_180_0, ro_182_1, ro_182_4, ro_182_5, ro_182_6, ro_182_9, ro_182_10, ro_182_11, ro_182_13, ro_182_14, ro_182_15, ro_182_16, ro_182_17, ro_182_20, ro_182_21, ro_182_22, ro_182_23, ro_182_24, ro_182_26, ro_182_27, ro_182_28, lo_3, lo_5, lo_7, lo_9, lo_11, lo_13, lo_15, lo_17, lo_19, lo_21, lo_24, lo_26, lo_28, lo_30, lo_32, lo_34, lo_36, lo_38, lo_40, lo_42, lo_44, lo_47, lo_49, lo_51, lo_54, lo_56, lo_58, lo_60, lo_63, lo_65, lo_67, lo_69, lo_72, lo_74, lo_76, lo_78, lo_80, lo_82, lo_84, lo_86, lo_88, lo_90, lo_93, lo_95, lo_97, lo_99, lo_101, lo_103, lo_105, lo_107, lo_109, lo_111, lo_114, lo_116, lo_118, lo_120, lo_122, lo_124, lo_126, lo_128, lo_130, lo_132, lo_135, lo_137, lo_139, lo_141, lo_143, lo_145, lo_147, lo_149, lo_151, lo_153, lo_156, lo_159, lo_161, lo_163, lo_165, lo_167, lo_169, lo_171, lo_173, lo_175, lo_177, lo_179, lo_181, lo_183, lo_184, lo_185, lo_186, lo_187, lo_188, lo_189, lo_190, lo_191, lo_192, lo_193, lo_194, lo_195, lo_196, lo_197, lo_198, lo_199, lo_200, lo_201, lo_202, lo_203, jp_nn, jp_eq, jp_e1, Classical.not_not, ji0, ji1, ji2, cs3_191, kk_191, cs3_196, kk_196, jl_0, jl_1, jl_2, jl_3, jl_4, jl_5, jl_6, jl_7, jl_8, jl_9, jl_10, jl_11, jl_12, jl_13, jl_14, jl_15, jl_16, jl_17, jl_18, jl_19, jl_20, jl_21, jl_22, jl_23, jl_24, jl_25, jl_26, jl_27, jl_28, jl_29, jl_30, jl_31, jl_32, jl_33, jl_34, jl_35, jl_36, jl_37, jl_38, jl_39, jl_40, jl_95, jl_96, jl_97, jl_98, jl_99, jl_100, jl_101, jl_102, jl_103, jl_104, jl_105, jl_106, jl_107, jl_108, jl_109, jl_110, jl_111, jl_112, jl_113, jl_114, jl_186, jl_1100, jr, ju, jpT, jpF, tnc, Nat.reduceEqDiff, reduceIte, and_false, false_and, not_true_eq_false, not_false_eq_true, or_false, gt_iff_lt, ge_iff_le, Int.lt_irrefl, Int.le_refl, e8, e7_w, e32, e30, e31_w, w1_w, w2_w, w4_w, v1_w, v2, v4_w, u1, u2_w, u4_w, y]
        refine hQ _ f78 ?_
        show St N (sWrd (h 184) (h 185) (h 186) (h 187) w.toNat i) _
        unfold sWrd
        rw [if_pos y]
        exact ⟨(up_ne (fun z => absurd z.2 (by decide))).trans e8, up_eq, lt⟩
      · have y' : ¬ (h 184 i = 1 ∧ h 186 i = h 187 w.toNat) := y
        unfold bb_197
        simp only [qe_1, qe_3, qe_4, qe_5, qe_7, qe_72, qe_10, qe_102, qe_13, qe_14, qe_15, qe_16, qe_17, qe_18, qe_20, qe_22, qe_23, qe_21, qe_24, qe_25, qe_26, qe_27, qe_28, qe_30, qe_31, qe_32, qc_20, qc_22, qc_23, qc_21, qc_24, qc_25, qc_26, qc_27, qc_1, qc_3, qc_4, qc_7, qc_13, qc_28, qc_32, qs_1, qs_2, qs_3, qs_4, qs_5, qs_6, qs_9, qs_10, qs_11, qs_14, qs_15, qs_16, qs_27, qs_17, qs_18, qs_19, qs_20, qs_22, qs_23, qs_28, qs_25, qs_26, qs_7, qs_8, kc_1, kn_1, kc_2, kn_2, kc_3, kn_3, kc_4, kn_4, kc_5, kn_5, kc_6, kn_6, kc_7, kn_7, kc_8, kn_8, kc_9, kn_9, kc_10, kn_10, kc_11, kn_11, kc_12, kn_12, kc_13, kn_13, kc_14, kn_14, kc_15, kn_15, kc_16, kc_17, kc_18, kc_19, kc_20, kc_21, kc_22, kc_23, kc_30, kc_32, kc_40, kc_43, kc_45, kc_48, kc_52, kc_56, kc_57, kc_59, kc_60, kc_61, kc_63, kc_64, kc_72, kc_78, kc_97, kc_99, kc_122, kc_126, kc_128, kc_192, kc_200, kc_255, kc_999, kc_1000, kc_9999, kn_9999, kc_10000, kc_12345, kc_65536, kc_252645135, kc_858993459, kc_1103515245, kc_1431655765, kc_2147483647, kc_0, kc_24, kc_28, kc_37, kc_41, kc_42, kc_73, kc_91, kc_95, kc_96, kc_98, kc_100, kc_112, kc_125, kc_150, kc_162, kc_163, kc_168, kc_186, kc_190, kc_250, kc_355, kc_356, kc_404, kc_405, kc_429, kc_573, kc_1002, kc_1100, kc_1891, kc_2200, kc_4719, kc_4869, kc_4881, kc_5148, kc_19741, kc_25433, kc_320403, kc_628412, kc_629093, kc_660401, kc_679843, kc_918640, kc_979410, kc_1178088, kc_6232410, kc_24644941, kc_36238189, kc_38270444, kc_392531318, kc_425693491, kc_1342154595, kc_2147483648, kc_42328242873, kc_891704255789, kc_1722105685577, kc_1858726030364, ct_0, ct_1, ct_2, ct_3, ct_4, ct_5, cf_0, cf_1, cf_2, cf_3, cf_4, cf_5, w_ty6, w_ty7, m_sv, m_z0, m_hd, m_g0, m_gs, m_s0, m_ss, m_ap, m_an, forall_const, true_and, and_true, ne_eq, not_true_eq_false, not_false_eq_true, false_implies, true_implies, implies_true, eq_self, reduceCtorEq, Nat.reduceDiv, Nat.reduceMod, Int.reduceToNat, or_true, true_or, or_false, false_or, or_self, m_it, m_if, m_c1, m_01, m_02, m_03, m_04, m_10, m_12, m_13, m_14, m_20, m_21, m_23, m_24, m_30, m_31, m_32, m_34, m_40, m_41, m_42, m_43, Int.reduceLE, Int.reduceLT, Int.reduceGE, Int.reduceGT, Int.reduceNeg, Int.reduceAdd, Int.reduceSub, Int.reduceMul, Int.reduceEq, Int.reduceNe, Nat.reduceAdd, jun2, ro_0_0, ro_0_1, ro_0_2, ro_0_3, ro_0_4, ro_0_5, ro_0_6, ro_0_7, ro_0_8, ro_0_9, ro_0_10, ro_0_11, ro_0_12, ro_1_0, ro_1_1, ro_2_0, ro_4_0, ro_6_0, ro_6_1, ro_6_2, ro_6_3, ro_6_4, ro_6_5, ro_6_6, ro_6_7, ro_6_8, ro_8_0, ro_10_0, ro_12_0, ro_14_0, ro_16_0, ro_18_0, ro_20_0, ro_22_0, ro_22_1, ro_22_2, ro_23_0, ro_25_0, ro_27_0, ro_29_0, ro_29_1, ro_29_2, ro_29_3, ro_29_4, ro_29_5, ro_29_6, ro_29_7, ro_29_8, ro_31_0, ro_33_0, ro_35_0, ro_37_0, ro_39_0, ro_41_0, ro_43_0, ro_45_0, ro_45_1, ro_45_2, ro_46_0, ro_48_0, ro_50_0, ro_52_0, ro_52_1, ro_52_2, ro_52_3, ro_53_0, ro_55_0, ro_57_0, ro_59_0, ro_61_0, ro_61_1, ro_61_2, ro_61_3, ro_62_0, ro_64_0, ro_66_0, ro_68_0, ro_70_0, ro_70_1, ro_70_2, ro_70_3, ro_70_4, ro_70_5, ro_70_6, ro_70_7, ro_70_8, ro_70_9, ro_71_0, ro_73_0, ro_75_0, ro_77_0, ro_79_0, ro_81_0, ro_83_0, ro_85_0, ro_87_0, ro_89_0, ro_91_0, ro_91_1, ro_91_2, ro_91_3, ro_91_4, ro_91_5, ro_91_6, ro_91_7, ro_91_8, ro_91_9, ro_92_0, ro_94_0, ro_96_0, ro_98_0, ro_100_0, ro_102_0, ro_104_0, ro_106_0, ro_108_0, ro_110_0, ro_112_0, ro_112_1, ro_112_2, ro_112_3, ro_112_4, ro_112_5, ro_112_6, ro_112_7, ro_112_8, ro_112_9, ro_113_0, ro_115_0, ro_117_0, ro_119_0, ro_121_0, ro_123_0, ro_125_0, ro_127_0, ro_129_0, ro_131_0, ro_133_0, ro_133_1, ro_133_2, ro_133_3, ro_133_4, ro_133_5, ro_133_6, ro_133_7, ro_133_8, ro_133_9, ro_134_0, ro_136_0, ro_138_0, ro_140_0, ro_142_0, ro_144_0, ro_146_0, ro_148_0, ro_150_0, ro_152_0, ro_154_0, ro_155_0, ro_157_0, ro_157_1, ro_157_2, ro_157_3, ro_157_4, ro_157_5, ro_157_6, ro_157_7, ro_157_8, ro_157_9, ro_158_0, ro_160_0, ro_162_0, ro_164_0, ro_166_0, ro_168_0, ro_170_0, ro_172_0, ro_174_0, ro_176_0, ro_178_0, ro_180_0, ro_182_1, ro_182_4, ro_182_5, ro_182_6, ro_182_9, ro_182_10, ro_182_11, ro_182_13, ro_182_14, ro_182_15, ro_182_16, ro_182_17, ro_182_20, ro_182_21, ro_182_22, ro_182_23, ro_182_24, ro_182_26, ro_182_27, ro_182_28, lo_3, lo_5, lo_7, lo_9, lo_11, lo_13, lo_15, lo_17, lo_19, lo_21, lo_24, lo_26, lo_28, lo_30, lo_32, lo_34, lo_36, lo_38, lo_40, lo_42, lo_44, lo_47, lo_49, lo_51, lo_54, lo_56, lo_58, lo_60, lo_63, lo_65, lo_67, lo_69, lo_72, lo_74, lo_76, lo_78, lo_80, lo_82, lo_84, lo_86, lo_88, lo_90, lo_93, lo_95, lo_97, lo_99, lo_101, lo_103, lo_105, lo_107, lo_109, lo_111, lo_114, lo_116, lo_118, lo_120, lo_122, lo_124, lo_126, lo_128, lo_130, lo_132, lo_135, lo_137, lo_139, lo_141, lo_143, lo_145, lo_147, lo_149, lo_151, lo_153, lo_156, lo_159, lo_161, lo_163, lo_165, lo_167, lo_169, lo_171, lo_173, lo_175, lo_177, lo_179, lo_181, lo_183, lo_184, lo_185, lo_186, lo_187, lo_188, lo_189, lo_190, lo_191, lo_192, lo_193, lo_194, lo_195, lo_196, lo_197, lo_198, lo_199, lo_200, lo_201, lo_202, lo_203, jp_nn, jp_eq, jp_e1, Classical.not_not, ji0, ji1, ji2, cs3_191, kk_191, cs3_196, kk_196, jl_0, jl_1, jl_2, jl_3, jl_4, jl_5, jl_6, jl_7, jl_8, jl_9, jl_10, jl_11, jl_12, jl_13, jl_14, jl_15, jl_16, jl_17, jl_18, jl_19, jl_20, jl_21, jl_22, jl_23, jl_24, jl_25, jl_26, jl_27, jl_28, jl_29, jl_30, jl_31, jl_32, jl_33, jl_34, jl_35, jl_36, jl_37, jl_38, jl_39, jl_40, jl_95, jl_96, jl_97, jl_98, jl_99, jl_100, jl_101, jl_102, jl_103, jl_104, jl_105, jl_106, jl_107, jl_108, jl_109, jl_110, jl_111, jl_112, jl_113, jl_114, jl_186, jl_1100, jr, ju, jpT, jpF, tnc, Nat.reduceEqDiff, reduceIte, and_false, false_and, not_true_eq_false, not_false_eq_true, or_false, gt_iff_lt, ge_iff_le, Int.lt_irrefl, Int.le_refl, e8, e7_w, e32, e30, e31_w, w1_w, w2_w, w4_w, v1_w, v2, v4_w, u1, u2_w, u4_w, y']
        refine hQ _ (Fr.tr f78 f78') ?_
        show St N (sWrd (h 184) (h 185) (h 186) (h 187) w.toNat i) _
        unfold sWrd
        rw [if_neg y]
        exact ⟨up_eq, v1_w⟩
  · exact hQ.elim
theorem m_200 : BodyOK CS3 CS3 200 := fun av h Q hQ => by
  rw [cs3_200] at hQ
  unfold k200 at hQ
  split at hQ
  · rename_i t lo_w hg
    obtain ⟨rfl, N, x, tk, st, hQ⟩ := hQ
    show pS CS3 bb_200 [182, lo_w, hg] h _
    match x, st with
    | .error f, st =>
      have g1 : 0 < h 182 8 := by have := st.1; have := st.2; omega
      have g2 : ¬ h 182 8 = 0 := by omega
      have g3_w : ¬ h 182 8 ≤ 0 := by omega
      unfold bb_200
      simp only [qe_1, qe_3, qe_4, qe_5, qe_7, qe_72, qe_10, qe_102, qe_13, qe_14, qe_15, qe_16, qe_17, qe_18, qe_20, qe_22, qe_23, qe_21, qe_24, qe_25, qe_26, qe_27, qe_28, qe_30, qe_31, qe_32, qc_20, qc_22, qc_23, qc_21, qc_24, qc_25, qc_26, qc_27, qc_1, qc_3, qc_4, qc_7, qc_13, qc_28, qc_32, qs_1, qs_2, qs_3, qs_4, qs_5, qs_6, qs_9, qs_10, qs_11, qs_14, qs_15, qs_16, qs_27, qs_17, qs_18, qs_19, qs_20, qs_22, qs_23, qs_28, qs_25, qs_26, qs_7, qs_8, kc_1, kn_1, kc_2, kn_2, kc_3, kn_3, kc_4, kn_4, kc_5, kn_5, kc_6, kn_6, kc_7, kn_7, kc_8, kn_8, kc_9, kn_9, kc_10, kn_10, kc_11, kn_11, kc_12, kn_12, kc_13, kn_13, kc_14, kn_14, kc_15, kn_15, kc_16, kc_17, kc_18, kc_19, kc_20, kc_21, kc_22, kc_23, kc_30, kc_32, kc_40, kc_43, kc_45, kc_48, kc_52, kc_56, kc_57, kc_59, kc_60, kc_61, kc_63, kc_64, kc_72, kc_78, kc_97, kc_99, kc_122, kc_126, kc_128, kc_192, kc_200, kc_255, kc_999, kc_1000, kc_9999, kn_9999, kc_10000, kc_12345, kc_65536, kc_252645135, kc_858993459, kc_1103515245, kc_1431655765, kc_2147483647, kc_0, kc_24, kc_28, kc_37, kc_41, kc_42, kc_73, kc_91, kc_95, kc_96, kc_98, kc_100, kc_112, kc_125, kc_150, kc_162, kc_163, kc_168, kc_186, kc_190, kc_250, kc_355, kc_356, kc_404, kc_405, kc_429, kc_573, kc_1002, kc_1100, kc_1891, kc_2200, kc_4719, kc_4869, kc_4881, kc_5148, kc_19741, kc_25433, kc_320403, kc_628412, kc_629093, kc_660401, kc_679843, kc_918640, kc_979410, kc_1178088, kc_6232410, kc_24644941, kc_36238189, kc_38270444, kc_392531318, kc_425693491, kc_1342154595, kc_2147483648, kc_42328242873, kc_891704255789, kc_1722105685577, kc_1858726030364, ct_0, ct_1, ct_2, ct_3, ct_4, ct_5, cf_0, cf_1, cf_2, cf_3, cf_4, cf_5, w_ty6, w_ty7, m_sv, m_z0, m_hd, m_g0, m_gs, m_s0, m_ss, m_ap, m_an, forall_const, true_and, and_true, ne_eq, not_true_eq_false, not_false_eq_true, false_implies, true_implies, implies_true, eq_self, reduceCtorEq, Nat.reduceDiv, Nat.reduceMod, Int.reduceToNat, or_true, true_or, or_false, false_or, or_self, m_it, m_if, m_c1, m_01, m_02, m_03, m_04, m_10, m_12, m_13, m_14, m_20, m_21, m_23, m_24, m_30, m_31, m_32, m_34, m_40, m_41, m_42, m_43, Int.reduceLE, Int.reduceLT, Int.reduceGE, Int.reduceGT, Int.reduceNeg, Int.reduceAdd, Int.reduceSub, Int.reduceMul, Int.reduceEq, Int.reduceNe, Nat.reduceAdd, jun2, ro_0_0, ro_0_1, ro_0_2, ro_0_3, ro_0_4, ro_0_5, ro_0_6, ro_0_7, ro_0_8, ro_0_9, ro_0_10, ro_0_11, ro_0_12, ro_1_0, ro_1_1, ro_2_0, ro_4_0, ro_6_0, ro_6_1, ro_6_2, ro_6_3, ro_6_4, ro_6_5, ro_6_6, ro_6_7, ro_6_8, ro_8_0, ro_10_0, ro_12_0, ro_14_0, ro_16_0, ro_18_0, ro_20_0, ro_22_0, ro_22_1, ro_22_2, ro_23_0, ro_25_0, ro_27_0, ro_29_0, ro_29_1, ro_29_2, ro_29_3, ro_29_4, ro_29_5, ro_29_6, ro_29_7, ro_29_8, ro_31_0, ro_33_0, ro_35_0, ro_37_0, ro_39_0, ro_41_0, ro_43_0, ro_45_0, ro_45_1, ro_45_2, ro_46_0, ro_48_0, ro_50_0, ro_52_0, ro_52_1, ro_52_2, ro_52_3, ro_53_0, ro_55_0, ro_57_0, ro_59_0, ro_61_0, ro_61_1, ro_61_2, ro_61_3, ro_62_0, ro_64_0, ro_66_0, ro_68_0, ro_70_0, ro_70_1, ro_70_2, ro_70_3, ro_70_4, ro_70_5, ro_70_6, ro_70_7, ro_70_8, ro_70_9, ro_71_0, ro_73_0, ro_75_0, ro_77_0, ro_79_0, ro_81_0, ro_83_0, ro_85_0, ro_87_0, ro_89_0, ro_91_0, ro_91_1, ro_91_2, ro_91_3, ro_91_4, ro_91_5, ro_91_6, ro_91_7, ro_91_8, ro_91_9, ro_92_0, ro_94_0, ro_96_0, ro_98_0, ro_100_0, ro_102_0, ro_104_0, ro_106_0, ro_108_0, ro_110_0, ro_112_0, ro_112_1, ro_112_2, ro_112_3, ro_112_4, ro_112_5, ro_112_6, ro_112_7, ro_112_8, ro_112_9, ro_113_0, ro_115_0, ro_117_0, ro_119_0, ro_121_0, ro_123_0, ro_125_0, ro_127_0, ro_129_0, ro_131_0, ro_133_0, ro_133_1, ro_133_2, ro_133_3, ro_133_4, ro_133_5, ro_133_6, ro_133_7, ro_133_8, ro_133_9, ro_134_0, ro_136_0, ro_138_0, ro_140_0, ro_142_0, ro_144_0, ro_146_0, ro_148_0, ro_150_0, ro_152_0, ro_154_0, ro_155_0, ro_157_0, ro_157_1, ro_157_2, ro_157_3, ro_157_4, ro_157_5, ro_157_6, ro_157_7, ro_157_8, ro_157_9, ro_158_0, ro_160_0, ro_162_0, ro_164_0, ro_166_0, ro_168_0, ro_170_0, ro_172_0, ro_174_0, ro_176_0, ro_178_0, ro_180_0, ro_182_1, ro_182_4, ro_182_5, ro_182_6, ro_182_9, ro_182_10, ro_182_11, ro_182_13, ro_182_14, ro_182_15, ro_182_16, ro_182_17, ro_182_20, ro_182_21, ro_182_22, ro_182_23, ro_182_24, ro_182_26, ro_182_27, ro_182_28, lo_3, lo_5, lo_7, lo_9, lo_11, lo_13, lo_15, lo_17, lo_19, lo_21, lo_24, lo_26, lo_28, lo_30, lo_32, lo_34, lo_36, lo_38, lo_40, lo_42, lo_44, lo_47, lo_49, lo_51, lo_54, lo_56, lo_58, lo_60, lo_63, lo_65, lo_67, lo_69, lo_72, lo_74, lo_76, lo_78, lo_80, lo_82, lo_84, lo_86, lo_88, lo_90, lo_93, lo_95, lo_97, lo_99, lo_101, lo_103, lo_105, lo_107, lo_109, lo_111, lo_114, lo_116, lo_118, lo_120, lo_122, lo_124, lo_126, lo_128, lo_130, lo_132, lo_135, lo_137, lo_139, lo_141, lo_143, lo_145, lo_147, lo_149, lo_151, lo_153, lo_156, lo_159, lo_161, lo_163, lo_165, lo_167, lo_169, lo_171, lo_173, lo_175, lo_177, lo_179, lo_181, lo_183, lo_184, lo_185, lo_186, lo_187, lo_188, lo_189, lo_190, lo_191, lo_192, lo_193, lo_194, lo_195, lo_196, lo_197, lo_198, lo_199, lo_200, lo_201, lo_202, lo_203, jp_nn, jp_eq, jp_e1, Classical.not_not, ji0, ji1, ji2, cs3_191, kk_191, jl_0, jl_1, jl_2, jl_3, jl_4, jl_5, jl_6, jl_7, jl_8, jl_9, jl_10, jl_11, jl_12, jl_13, jl_14, jl_15, jl_16, jl_17, jl_18, jl_19, jl_20, jl_21, jl_22, jl_23, jl_24, jl_25, jl_26, jl_27, jl_28, jl_29, jl_30, jl_31, jl_32, jl_33, jl_34, jl_35, jl_36, jl_37, jl_38, jl_39, jl_40, jl_95, jl_96, jl_97, jl_98, jl_99, jl_100, jl_101, jl_102, jl_103, jl_104, jl_105, jl_106, jl_107, jl_108, jl_109, jl_110, jl_111, jl_112, jl_113, jl_114, jl_186, jl_1100, jr, ju, jpT, jpF, tnc, Nat.reduceEqDiff, reduceIte, and_false, false_and, not_true_eq_false, not_false_eq_true, or_false, gt_iff_lt, ge_iff_le, Int.lt_irrefl, Int.le_refl, g1, g2, g3_w]
      exact hQ _ _ Fr.rf st (fun v j z => by cases z)
    | .ok i, st =>
      obtain ⟨e8, e7_w, hn⟩ := st
      have tn_w := tk.1
      have e32 : j32 ((i : Int) + 1) = ((i + 1 : Nat) : Int) := by
        rw [j32_id (by omega) (by omega)]
        omega
      have e30 : j32 ((i : Int) + 0) = (i : Int) := by
        rw [j32_id (by omega) (by omega)]
        omega
      have e31_w : j32 (((i + 1 : Nat) : Int) - 1) = (i : Int) := by
        rw [j32_id (by omega) (by omega)]
        omega
      obtain ⟨w1_w, v1_w⟩ := wr_ev (c := 1) tk hn (by decide) (by decide)
      obtain ⟨w2_w, v2⟩ := wr_ev (c := 2) tk hn (by decide) (by decide)
      obtain ⟨w4_w, v4_w⟩ := wr_ev (c := 4) tk hn (by decide) (by decide)
      have u1 : ¬ er (h 185) 1 i ≤ 0 := by omega
      have u2_w : ¬ er (h 185) 2 i ≤ 0 := by omega
      have u4_w : ¬ er (h 185) 4 i ≤ 0 := by omega
      by_cases y : h 184 i = 2
      · have lt := st_at tk hn (by omega)
        by_cases y2 : h 186 i < lo_w
        · have y3 : ¬ lo_w ≤ h 186 i := by omega
          unfold bb_200
          simp only [qe_1, qe_3, qe_4, qe_5, qe_7, qe_72, qe_10, qe_102, qe_13, qe_14, qe_15, qe_16, qe_17, qe_18, qe_20, qe_22, qe_23, qe_21, qe_24, qe_25, qe_26, qe_27, qe_28, qe_30, qe_31, qe_32, qc_20, qc_22, qc_23, qc_21, qc_24, qc_25, qc_26, qc_27, qc_1, qc_3, qc_4, qc_7, qc_13, qc_28, qc_32, qs_1, qs_2, qs_3, qs_4, qs_5, qs_6, qs_9, qs_10, qs_11, qs_14, qs_15, qs_16, qs_27, qs_17, qs_18, qs_19, qs_20, qs_22, qs_23, qs_28, qs_25, qs_26, qs_7, qs_8, kc_1, kn_1, kc_2, kn_2, kc_3, kn_3, kc_4, kn_4, kc_5, kn_5, kc_6, kn_6, kc_7, kn_7, kc_8, kn_8, kc_9, kn_9, kc_10, kn_10, kc_11, kn_11, kc_12, kn_12, kc_13, kn_13, kc_14, kn_14, kc_15, kn_15, kc_16, kc_17, kc_18, kc_19, kc_20, kc_21, kc_22, kc_23, kc_30, kc_32, kc_40, kc_43, kc_45, kc_48, kc_52, kc_56, kc_57, kc_59, kc_60, kc_61, kc_63, kc_64, kc_72, kc_78, kc_97, kc_99, kc_122, kc_126, kc_128, kc_192, kc_200, kc_255, kc_999, kc_1000, kc_9999, kn_9999, kc_10000, kc_12345, kc_65536, kc_252645135, kc_858993459, kc_1103515245, kc_1431655765, kc_2147483647, kc_0, kc_24, kc_28, kc_37, kc_41, kc_42, kc_73, kc_91, kc_95, kc_96, kc_98, kc_100, kc_112, kc_125, kc_150, kc_162, kc_163, kc_168, kc_186, kc_190, kc_250, kc_355, kc_356, kc_404, kc_405, kc_429, kc_573, kc_1002, kc_1100, kc_1891, kc_2200, kc_4719, kc_4869, kc_4881, kc_5148, kc_19741, kc_25433, kc_320403, kc_628412, kc_629093, kc_660401, kc_679843, kc_918640, kc_979410, kc_1178088, kc_6232410, kc_24644941, kc_36238189, kc_38270444, kc_392531318, kc_425693491, kc_1342154595, kc_2147483648, kc_42328242873, kc_891704255789, kc_1722105685577, kc_1858726030364, ct_0, ct_1, ct_2, ct_3, ct_4, ct_5, cf_0, cf_1, cf_2, cf_3, cf_4, cf_5, w_ty6, w_ty7, m_sv, m_z0, m_hd, m_g0, m_gs, m_s0, m_ss, m_ap, m_an, forall_const, true_and, and_true, ne_eq, not_true_eq_false, not_false_eq_true, false_implies, true_implies, implies_true, eq_self, reduceCtorEq, Nat.reduceDiv, Nat.reduceMod, Int.reduceToNat, or_true, true_or, or_false, false_or, or_self, m_it, m_if, m_c1, m_01, m_02, m_03, m_04, m_10, m_12, m_13, m_14, m_20, m_21, m_23, m_24, m_30, m_31, m_32, m_34, m_40, m_41, m_42, m_43, Int.reduceLE, Int.reduceLT, Int.reduceGE, Int.reduceGT, Int.reduceNeg, Int.reduceAdd, Int.reduceSub, Int.reduceMul, Int.reduceEq, Int.reduceNe, Nat.reduceAdd, jun2, ro_0_0, ro_0_1, ro_0_2, ro_0_3, ro_0_4, ro_0_5, ro_0_6, ro_0_7, ro_0_8, ro_0_9, ro_0_10, ro_0_11, ro_0_12, ro_1_0, ro_1_1, ro_2_0, ro_4_0, ro_6_0, ro_6_1, ro_6_2, ro_6_3, ro_6_4, ro_6_5, ro_6_6, ro_6_7, ro_6_8, ro_8_0, ro_10_0, ro_12_0, ro_14_0, ro_16_0, ro_18_0, ro_20_0, ro_22_0, ro_22_1, ro_22_2, ro_23_0, ro_25_0, ro_27_0, ro_29_0, ro_29_1, ro_29_2, ro_29_3, ro_29_4, ro_29_5, ro_29_6, ro_29_7, ro_29_8, ro_31_0, ro_33_0, ro_35_0, ro_37_0, ro_39_0, ro_41_0, ro_43_0, ro_45_0, ro_45_1, ro_45_2, ro_46_0, ro_48_0, ro_50_0, ro_52_0, ro_52_1, ro_52_2, ro_52_3, ro_53_0, ro_55_0, ro_57_0, ro_59_0, ro_61_0, ro_61_1, ro_61_2, ro_61_3, ro_62_0, ro_64_0, ro_66_0, ro_68_0, ro_70_0, ro_70_1, ro_70_2, ro_70_3, ro_70_4, ro_70_5, ro_70_6, ro_70_7, ro_70_8, ro_70_9, ro_71_0, ro_73_0, ro_75_0, ro_77_0, ro_79_0, ro_81_0, ro_83_0, ro_85_0, ro_87_0, ro_89_0, ro_91_0, ro_91_1, ro_91_2, ro_91_3, ro_91_4, ro_91_5, ro_91_6, ro_91_7, ro_91_8, ro_91_9, ro_92_0, ro_94_0, ro_96_0, ro_98_0, ro_100_0, ro_102_0, ro_104_0, ro_106_0, ro_108_0, ro_110_0, ro_112_0, ro_112_1, ro_112_2, ro_112_3, ro_112_4, ro_112_5, ro_112_6, ro_112_7, ro_112_8, ro_112_9, ro_113_0, ro_115_0, ro_117_0, ro_119_0, ro_121_0, ro_123_0, ro_125_0, ro_127_0, ro_129_0, ro_131_0, ro_133_0, ro_133_1, ro_133_2, ro_133_3, ro_133_4, ro_133_5, ro_133_6, ro_133_7, ro_133_8, ro_133_9, ro_134_0, ro_136_0, ro_138_0, ro_140_0, ro_142_0, ro_144_0, ro_146_0, ro_148_0, ro_150_0, ro_152_0, ro_154_0, ro_155_0, ro_157_0, ro_157_1, ro_157_2, ro_157_3, ro_157_4, ro_157_5, ro_157_6, ro_157_7, ro_157_8, ro_157_9, ro_158_0, ro_160_0, ro_162_0, ro_164_0, ro_166_0, ro_168_0, ro_170_0, ro_172_0, ro_174_0, ro_176_0, ro_178_0, ro_180_0, ro_182_1, ro_182_4, ro_182_5, ro_182_6, ro_182_9, ro_182_10, ro_182_11, ro_182_13, ro_182_14, ro_182_15, ro_182_16, ro_182_17, ro_182_20, ro_182_21, ro_182_22, ro_182_23, ro_182_24, ro_182_26, ro_182_27, ro_182_28, lo_3, lo_5, lo_7, lo_9, lo_11, lo_13, lo_15, lo_17, lo_19, lo_21, lo_24, lo_26, lo_28, lo_30, lo_32, lo_34, lo_36, lo_38, lo_40, lo_42, lo_44, lo_47, lo_49, lo_51, lo_54, lo_56, lo_58, lo_60, lo_63, lo_65, lo_67, lo_69, lo_72, lo_74, lo_76, lo_78, lo_80, lo_82, lo_84, lo_86, lo_88, lo_90, lo_93, lo_95, lo_97, lo_99, lo_101, lo_103, lo_105, lo_107, lo_109, lo_111, lo_114, lo_116, lo_118, lo_120, lo_122, lo_124, lo_126, lo_128, lo_130, lo_132, lo_135, lo_137, lo_139, lo_141, lo_143, lo_145, lo_147, lo_149, lo_151, lo_153, lo_156, lo_159, lo_161, lo_163, lo_165, lo_167, lo_169, lo_171, lo_173, lo_175, lo_177, lo_179, lo_181, lo_183, lo_184, lo_185, lo_186, lo_187, lo_188, lo_189, lo_190, lo_191, lo_192, lo_193, lo_194, lo_195, lo_196, lo_197, lo_198, lo_199, lo_200, lo_201, lo_202, lo_203, jp_nn, jp_eq, jp_e1, Classical.not_not, ji0, ji1, ji2, cs3_191, kk_191, jl_0, jl_1, jl_2, jl_3, jl_4, jl_5, jl_6, jl_7, jl_8, jl_9, jl_10, jl_11, jl_12, jl_13, jl_14, jl_15, jl_16, jl_17, jl_18, jl_19, jl_20, jl_21, jl_22, jl_23, jl_24, jl_25, jl_26, jl_27, jl_28, jl_29, jl_30, jl_31, jl_32, jl_33, jl_34, jl_35, jl_36, jl_37, jl_38, jl_39, jl_40, jl_95, jl_96, jl_97, jl_98, jl_99, jl_100, jl_101, jl_102, jl_103, jl_104, jl_105, jl_106, jl_107, jl_108, jl_109, jl_110, jl_111, jl_112, jl_113, jl_114, jl_186, jl_1100, jr, ju, jpT, jpF, tnc, Nat.reduceEqDiff, reduceIte, and_false, false_and, not_true_eq_false, not_false_eq_true, or_false, gt_iff_lt, ge_iff_le, Int.lt_irrefl, Int.le_refl, e8, e7_w, e32, e30, e31_w, w1_w, w2_w, w4_w, v1_w, v2, v4_w, u1, u2_w, u4_w, y, y2, y3]
          intro _ _
          refine hQ _ _ f78' ?_ ?_
          · show St N (nx (sNum (h 184) (h 185) (h 186) lo_w hg i)) _
            unfold sNum
            rw [if_neg (fun z => z y), if_pos (Or.inl y2)]
            exact ⟨up_eq, v4_w⟩
          · intro v j z
            have z' : sNum (h 184) (h 185) (h 186) lo_w hg i = .ok (v, j) := z
            unfold sNum at z'
            rw [if_neg (fun z => z y), if_pos (Or.inl y2)] at z'
            cases z'
        · have y3 : lo_w ≤ h 186 i := by omega
          by_cases y4 : hg < h 186 i
          · have y5 : ¬ h 186 i ≤ hg := by omega
            unfold bb_200
            simp only [qe_1, qe_3, qe_4, qe_5, qe_7, qe_72, qe_10, qe_102, qe_13, qe_14, qe_15, qe_16, qe_17, qe_18, qe_20, qe_22, qe_23, qe_21, qe_24, qe_25, qe_26, qe_27, qe_28, qe_30, qe_31, qe_32, qc_20, qc_22, qc_23, qc_21, qc_24, qc_25, qc_26, qc_27, qc_1, qc_3, qc_4, qc_7, qc_13, qc_28, qc_32, qs_1, qs_2, qs_3, qs_4, qs_5, qs_6, qs_9, qs_10, qs_11, qs_14, qs_15, qs_16, qs_27, qs_17, qs_18, qs_19, qs_20, qs_22, qs_23, qs_28, qs_25, qs_26, qs_7, qs_8, kc_1, kn_1, kc_2, kn_2, kc_3, kn_3, kc_4, kn_4, kc_5, kn_5, kc_6, kn_6, kc_7, kn_7, kc_8, kn_8, kc_9, kn_9, kc_10, kn_10, kc_11, kn_11, kc_12, kn_12, kc_13, kn_13, kc_14, kn_14, kc_15, kn_15, kc_16, kc_17, kc_18, kc_19, kc_20, kc_21, kc_22, kc_23, kc_30, kc_32, kc_40, kc_43, kc_45, kc_48, kc_52, kc_56, kc_57, kc_59, kc_60, kc_61, kc_63, kc_64, kc_72, kc_78, kc_97, kc_99, kc_122, kc_126, kc_128, kc_192, kc_200, kc_255, kc_999, kc_1000, kc_9999, kn_9999, kc_10000, kc_12345, kc_65536, kc_252645135, kc_858993459, kc_1103515245, kc_1431655765, kc_2147483647, kc_0, kc_24, kc_28, kc_37, kc_41, kc_42, kc_73, kc_91, kc_95, kc_96, kc_98, kc_100, kc_112, kc_125, kc_150, kc_162, kc_163, kc_168, kc_186, kc_190, kc_250, kc_355, kc_356, kc_404, kc_405, kc_429, kc_573, kc_1002, kc_1100, kc_1891, kc_2200, kc_4719, kc_4869, kc_4881, kc_5148, kc_19741, kc_25433, kc_320403, kc_628412, kc_629093, kc_660401, kc_679843, kc_918640, kc_979410, kc_1178088, kc_6232410, kc_24644941, kc_36238189, kc_38270444, kc_392531318, kc_425693491, kc_1342154595, kc_2147483648, kc_42328242873, kc_891704255789, kc_1722105685577, kc_1858726030364, ct_0, ct_1, ct_2, ct_3, ct_4, ct_5, cf_0, cf_1, cf_2, cf_3, cf_4, cf_5, w_ty6, w_ty7, m_sv, m_z0, m_hd, m_g0, m_gs, m_s0, m_ss, m_ap, m_an, forall_const, true_and, and_true, ne_eq, not_true_eq_false, not_false_eq_true, false_implies, true_implies, implies_true, eq_self, reduceCtorEq, Nat.reduceDiv, Nat.reduceMod, Int.reduceToNat, or_true, true_or, or_false, false_or, or_self, m_it, m_if, m_c1, m_01, m_02, m_03, m_04, m_10, m_12, m_13, m_14, m_20, m_21, m_23, m_24, m_30, m_31, m_32, m_34, m_40, m_41, m_42, m_43, Int.reduceLE, Int.reduceLT, Int.reduceGE, Int.reduceGT, Int.reduceNeg, Int.reduceAdd, Int.reduceSub, Int.reduceMul, Int.reduceEq, Int.reduceNe, Nat.reduceAdd, jun2, ro_0_0, ro_0_1, ro_0_2, ro_0_3, ro_0_4, ro_0_5, ro_0_6, ro_0_7, ro_0_8, ro_0_9, ro_0_10, ro_0_11, ro_0_12, ro_1_0, ro_1_1, ro_2_0, ro_4_0, ro_6_0, ro_6_1, ro_6_2, ro_6_3, ro_6_4, ro_6_5, ro_6_6, ro_6_7, ro_6_8, ro_8_0, ro_10_0, ro_12_0, ro_14_0, ro_16_0, ro_18_0, ro_20_0, ro_22_0, ro_22_1, ro_22_2, ro_23_0, ro_25_0, ro_27_0, ro_29_0, ro_29_1, ro_29_2, ro_29_3, ro_29_4, ro_29_5, ro_29_6, ro_29_7, ro_29_8, ro_31_0, ro_33_0, ro_35_0, ro_37_0, ro_39_0, ro_41_0, ro_43_0, ro_45_0, ro_45_1, ro_45_2, ro_46_0, ro_48_0, ro_50_0, ro_52_0, ro_52_1, ro_52_2, ro_52_3, ro_53_0, ro_55_0, ro_57_0, ro_59_0, ro_61_0, ro_61_1, ro_61_2, ro_61_3, ro_62_0, ro_64_0, ro_66_0, ro_68_0, ro_70_0, ro_70_1, ro_70_2, ro_70_3, ro_70_4, ro_70_5, ro_70_6, ro_70_7, ro_70_8, ro_70_9, ro_71_0, ro_73_0, ro_75_0, ro_77_0, ro_79_0, ro_81_0, ro_83_0, ro_85_0, ro_87_0, ro_89_0, ro_91_0, ro_91_1, ro_91_2, ro_91_3, ro_91_4, ro_91_5, ro_91_6, ro_91_7, ro_91_8, ro_91_9, ro_92_0, ro_94_0, ro_96_0, ro_98_0, ro_100_0, ro_102_0, ro_104_0, ro_106_0, ro_108_0, ro_110_0, ro_112_0, ro_112_1, ro_112_2, ro_112_3, ro_112_4, ro_112_5, ro_112_6, ro_112_7, ro_112_8, ro_112_9, ro_113_0, ro_115_0, ro_117_0, ro_119_0, ro_121_0, ro_123_0, ro_125_0, ro_127_0, ro_129_0, ro_131_0, ro_133_0, ro_133_1, ro_133_2, ro_133_3, ro_133_4, ro_133_5, ro_133_6, ro_133_7, ro_133_8, ro_133_9, ro_134_0, ro_136_0, ro_138_0, ro_140_0, ro_142_0, ro_144_0, ro_146_0, ro_148_0, ro_150_0, ro_152_0, ro_154_0, ro_155_0, ro_157_0, ro_157_1, ro_157_2, ro_157_3, ro_157_4, ro_157_5, ro_157_6, ro_157_7, ro_157_8, ro_157_9, ro_158_0, ro_160_0, ro_162_0, ro_164_0, ro_166_0, ro_168_0, ro_170_0, ro_172_0, ro_174_0, ro_176_0, ro_178_0, ro_180_0, ro_182_1, ro_182_4, ro_182_5, ro_182_6, ro_182_9, ro_182_10, ro_182_11, ro_182_13, ro_182_14, ro_182_15, ro_182_16, ro_182_17, ro_182_20, ro_182_21, ro_182_22, ro_182_23, ro_182_24, ro_182_26, ro_182_27, ro_182_28, lo_3, lo_5, lo_7, lo_9, lo_11, lo_13, lo_15, lo_17, lo_19, lo_21, lo_24, lo_26, lo_28, lo_30, lo_32, lo_34, lo_36, lo_38, lo_40, lo_42, lo_44, lo_47, lo_49, lo_51, lo_54, lo_56, lo_58, lo_60, lo_63, lo_65, lo_67, lo_69, lo_72, lo_74, lo_76, lo_78, lo_80, lo_82, lo_84, lo_86, lo_88, lo_90, lo_93, lo_95, lo_97, lo_99, lo_101, lo_103, lo_105, lo_107, lo_109, lo_111, lo_114, lo_116, lo_118, lo_120, lo_122, lo_124, lo_126, lo_128, lo_130, lo_132, lo_135, lo_137, lo_139, lo_141, lo_143, lo_145, lo_147, lo_149, lo_151, lo_153, lo_156, lo_159, lo_161, lo_163, lo_165, lo_167, lo_169, lo_171, lo_173, lo_175, lo_177, lo_179, lo_181, lo_183, lo_184, lo_185, lo_186, lo_187, lo_188, lo_189, lo_190, lo_191, lo_192, lo_193, lo_194, lo_195, lo_196, lo_197, lo_198, lo_199, lo_200, lo_201, lo_202, lo_203, jp_nn, jp_eq, jp_e1, Classical.not_not, ji0, ji1, ji2, cs3_191, kk_191, jl_0, jl_1, jl_2, jl_3, jl_4, jl_5, jl_6, jl_7, jl_8, jl_9, jl_10, jl_11, jl_12, jl_13, jl_14, jl_15, jl_16, jl_17, jl_18, jl_19, jl_20, jl_21, jl_22, jl_23, jl_24, jl_25, jl_26, jl_27, jl_28, jl_29, jl_30, jl_31, jl_32, jl_33, jl_34, jl_35, jl_36, jl_37, jl_38, jl_39, jl_40, jl_95, jl_96, jl_97, jl_98, jl_99, jl_100, jl_101, jl_102, jl_103, jl_104, jl_105, jl_106, jl_107, jl_108, jl_109, jl_110, jl_111, jl_112, jl_113, jl_114, jl_186, jl_1100, jr, ju, jpT, jpF, tnc, Nat.reduceEqDiff, reduceIte, and_false, false_and, not_true_eq_false, not_false_eq_true, or_false, gt_iff_lt, ge_iff_le, Int.lt_irrefl, Int.le_refl, e8, e7_w, e32, e30, e31_w, w1_w, w2_w, w4_w, v1_w, v2, v4_w, u1, u2_w, u4_w, y, y2, y3, y4, y5]
            intro _ _ _
            refine hQ _ _ f78' ?_ ?_
            · show St N (nx (sNum (h 184) (h 185) (h 186) lo_w hg i)) _
              unfold sNum
              rw [if_neg (fun z => z y), if_pos (Or.inr y4)]
              exact ⟨up_eq, v4_w⟩
            · intro v j z
              have z' : sNum (h 184) (h 185) (h 186) lo_w hg i = .ok (v, j) := z
              unfold sNum at z'
              rw [if_neg (fun z => z y), if_pos (Or.inr y4)] at z'
              cases z'
          · have y5 : h 186 i ≤ hg := by omega
            have b := tk.2.2.2.2 i lt y
            have eu : j_un 3 (h 186 i) = h 186 i := j32_id (by omega) (by omega)
            unfold bb_200
            simp only [qe_1, qe_3, qe_4, qe_5, qe_7, qe_72, qe_10, qe_102, qe_13, qe_14, qe_15, qe_16, qe_17, qe_18, qe_20, qe_22, qe_23, qe_21, qe_24, qe_25, qe_26, qe_27, qe_28, qe_30, qe_31, qe_32, qc_20, qc_22, qc_23, qc_21, qc_24, qc_25, qc_26, qc_27, qc_1, qc_3, qc_4, qc_7, qc_13, qc_28, qc_32, qs_1, qs_2, qs_3, qs_4, qs_5, qs_6, qs_9, qs_10, qs_11, qs_14, qs_15, qs_16, qs_27, qs_17, qs_18, qs_19, qs_20, qs_22, qs_23, qs_28, qs_25, qs_26, qs_7, qs_8, kc_1, kn_1, kc_2, kn_2, kc_3, kn_3, kc_4, kn_4, kc_5, kn_5, kc_6, kn_6, kc_7, kn_7, kc_8, kn_8, kc_9, kn_9, kc_10, kn_10, kc_11, kn_11, kc_12, kn_12, kc_13, kn_13, kc_14, kn_14, kc_15, kn_15, kc_16, kc_17, kc_18, kc_19, kc_20, kc_21, kc_22, kc_23, kc_30, kc_32, kc_40, kc_43, kc_45, kc_48, kc_52, kc_56, kc_57, kc_59, kc_60, kc_61, kc_63, kc_64, kc_72, kc_78, kc_97, kc_99, kc_122, kc_126, kc_128, kc_192, kc_200, kc_255, kc_999, kc_1000, kc_9999, kn_9999, kc_10000, kc_12345, kc_65536, kc_252645135, kc_858993459, kc_1103515245, kc_1431655765, kc_2147483647, kc_0, kc_24, kc_28, kc_37, kc_41, kc_42, kc_73, kc_91, kc_95, kc_96, kc_98, kc_100, kc_112, kc_125, kc_150, kc_162, kc_163, kc_168, kc_186, kc_190, kc_250, kc_355, kc_356, kc_404, kc_405, kc_429, kc_573, kc_1002, kc_1100, kc_1891, kc_2200, kc_4719, kc_4869, kc_4881, kc_5148, kc_19741, kc_25433, kc_320403, kc_628412, kc_629093, kc_660401, kc_679843, kc_918640, kc_979410, kc_1178088, kc_6232410, kc_24644941, kc_36238189, kc_38270444, kc_392531318, kc_425693491, kc_1342154595, kc_2147483648, kc_42328242873, kc_891704255789, kc_1722105685577, kc_1858726030364, ct_0, ct_1, ct_2, ct_3, ct_4, ct_5, cf_0, cf_1, cf_2, cf_3, cf_4, cf_5, w_ty6, w_ty7, m_sv, m_z0, m_hd, m_g0, m_gs, m_s0, m_ss, m_ap, m_an, forall_const, true_and, and_true, ne_eq, not_true_eq_false, not_false_eq_true, false_implies, true_implies, implies_true, eq_self, reduceCtorEq, Nat.reduceDiv, Nat.reduceMod, Int.reduceToNat, or_true, true_or, or_false, false_or, or_self, m_it, m_if, m_c1, m_01, m_02, m_03, m_04, m_10, m_12, m_13, m_14, m_20, m_21, m_23, m_24, m_30, m_31, m_32, m_34, m_40, m_41, m_42, m_43, Int.reduceLE, Int.reduceLT, Int.reduceGE, Int.reduceGT, Int.reduceNeg, Int.reduceAdd, Int.reduceSub, Int.reduceMul, Int.reduceEq, Int.reduceNe, Nat.reduceAdd, jun2, ro_0_0, ro_0_1, ro_0_2, ro_0_3, ro_0_4, ro_0_5, ro_0_6, ro_0_7, ro_0_8, ro_0_9, ro_0_10, ro_0_11, ro_0_12, ro_1_0, ro_1_1, ro_2_0, ro_4_0, ro_6_0, ro_6_1, ro_6_2, ro_6_3, ro_6_4, ro_6_5, ro_6_6, ro_6_7, ro_6_8, ro_8_0, ro_10_0, ro_12_0, ro_14_0, ro_16_0, ro_18_0, ro_20_0, ro_22_0, ro_22_1, ro_22_2, ro_23_0, ro_25_0, ro_27_0, ro_29_0, ro_29_1, ro_29_2, ro_29_3, ro_29_4, ro_29_5, ro_29_6, ro_29_7, ro_29_8, ro_31_0, ro_33_0, ro_35_0, ro_37_0, ro_39_0, ro_41_0, ro_43_0, ro_45_0, ro_45_1, ro_45_2, ro_46_0, ro_48_0, ro_50_0, ro_52_0, ro_52_1, ro_52_2, ro_52_3, ro_53_0, ro_55_0, ro_57_0, ro_59_0, ro_61_0, ro_61_1, ro_61_2, ro_61_3, ro_62_0, ro_64_0, ro_66_0, ro_68_0, ro_70_0, ro_70_1, ro_70_2, ro_70_3, ro_70_4, ro_70_5, ro_70_6, ro_70_7, ro_70_8, ro_70_9, ro_71_0, ro_73_0, ro_75_0, ro_77_0, ro_79_0, ro_81_0, ro_83_0, ro_85_0, ro_87_0, ro_89_0, ro_91_0, ro_91_1, ro_91_2, ro_91_3, ro_91_4, ro_91_5, ro_91_6, ro_91_7, ro_91_8, ro_91_9, ro_92_0, ro_94_0, ro_96_0, ro_98_0, ro_100_0, ro_102_0, ro_104_0, ro_106_0, ro_108_0, ro_110_0, ro_112_0, ro_112_1, ro_112_2, ro_112_3, ro_112_4, ro_112_5, ro_112_6, ro_112_7, ro_112_8, ro_112_9, ro_113_0, ro_115_0, ro_117_0, ro_119_0, ro_121_0, ro_123_0, ro_125_0, ro_127_0, ro_129_0, ro_131_0, ro_133_0, ro_133_1, ro_133_2, ro_133_3, ro_133_4, ro_133_5, ro_133_6, ro_133_7, ro_133_8, ro_133_9, ro_134_0, ro_136_0, ro_138_0, ro_140_0, ro_142_0, ro_144_0, ro_146_0, ro_148_0, ro_150_0, ro_152_0, ro_154_0, ro_155_0, ro_157_0, ro_157_1, ro_157_2, ro_157_3, ro_157_4, ro_157_5, ro_157_6, ro_157_7, ro_157_8, ro_157_9, ro_158_0, ro_160_0, ro_162_0, ro_164_0, ro_166_0, ro_168_0, ro_170_0, ro_172_0, ro_174_0, ro_176_0, ro_178_0, ro_180_0, ro_182_1, ro_182_4, ro_182_5, ro_182_6, ro_182_9, ro_182_10, ro_182_11, ro_182_13, ro_182_14, ro_182_15, ro_182_16, ro_182_17, ro_182_20, ro_182_21, ro_182_22, ro_182_23, ro_182_24, ro_182_26, ro_182_27, ro_182_28, lo_3, lo_5, lo_7, lo_9, lo_11, lo_13, lo_15, lo_17, lo_19, lo_21, lo_24, lo_26, lo_28, lo_30, lo_32, lo_34, lo_36, lo_38, lo_40, lo_42, lo_44, lo_47, lo_49, lo_51, lo_54, lo_56, lo_58, lo_60, lo_63, lo_65, lo_67, lo_69, lo_72, lo_74, lo_76, lo_78, lo_80, lo_82, lo_84, lo_86, lo_88, lo_90, lo_93, lo_95, lo_97, lo_99, lo_101, lo_103, lo_105, lo_107, lo_109, lo_111, lo_114, lo_116, lo_118, lo_120, lo_122, lo_124, lo_126, lo_128, lo_130, lo_132, lo_135, lo_137, lo_139, lo_141, lo_143, lo_145, lo_147, lo_149, lo_151, lo_153, lo_156, lo_159, lo_161, lo_163, lo_165, lo_167, lo_169, lo_171, lo_173, lo_175, lo_177, lo_179, lo_181, lo_183, lo_184, lo_185, lo_186, lo_187, lo_188, lo_189, lo_190, lo_191, lo_192, lo_193, lo_194, lo_195, lo_196, lo_197, lo_198, lo_199, lo_200, lo_201, lo_202, lo_203, jp_nn, jp_eq, jp_e1, Classical.not_not, ji0, ji1, ji2, cs3_191, kk_191, jl_0, jl_1, jl_2, jl_3, jl_4, jl_5, jl_6, jl_7, jl_8, jl_9, jl_10, jl_11, jl_12, jl_13, jl_14, jl_15, jl_16, jl_17, jl_18, jl_19, jl_20, jl_21, jl_22, jl_23, jl_24, jl_25, jl_26, jl_27, jl_28, jl_29, jl_30, jl_31, jl_32, jl_33, jl_34, jl_35, jl_36, jl_37, jl_38, jl_39, jl_40, jl_95, jl_96, jl_97, jl_98, jl_99, jl_100, jl_101, jl_102, jl_103, jl_104, jl_105, jl_106, jl_107, jl_108, jl_109, jl_110, jl_111, jl_112, jl_113, jl_114, jl_186, jl_1100, jr, ju, jpT, jpF, tnc, Nat.reduceEqDiff, reduceIte, and_false, false_and, not_true_eq_false, not_false_eq_true, or_false, gt_iff_lt, ge_iff_le, Int.lt_irrefl, Int.le_refl, e8, e7_w, e32, e30, e31_w, w1_w, w2_w, w4_w, v1_w, v2, v4_w, u1, u2_w, u4_w, y, y2, y3, y4, y5, eu]
            intro _ _ _ _
            refine hQ _ _ f78 ?_ ?_
            · show St N (nx (sNum (h 184) (h 185) (h 186) lo_w hg i)) _
              unfold sNum
              rw [if_neg (fun z => z y), if_neg (by omega)]
              exact ⟨(up_ne (fun z => absurd z.2 (by decide))).trans e8, up_eq, lt⟩
            · intro v j z
              have z' : sNum (h 184) (h 185) (h 186) lo_w hg i = .ok (v, j) := z
              unfold sNum at z'
              rw [if_neg (fun z => z y), if_neg (by omega)] at z'
              cases z'
              rfl
      · unfold bb_200
        simp only [qe_1, qe_3, qe_4, qe_5, qe_7, qe_72, qe_10, qe_102, qe_13, qe_14, qe_15, qe_16, qe_17, qe_18, qe_20, qe_22, qe_23, qe_21, qe_24, qe_25, qe_26, qe_27, qe_28, qe_30, qe_31, qe_32, qc_20, qc_22, qc_23, qc_21, qc_24, qc_25, qc_26, qc_27, qc_1, qc_3, qc_4, qc_7, qc_13, qc_28, qc_32, qs_1, qs_2, qs_3, qs_4, qs_5, qs_6, qs_9, qs_10, qs_11, qs_14, qs_15, qs_16, qs_27, qs_17, qs_18, qs_19, qs_20, qs_22, qs_23, qs_28, qs_25, qs_26, qs_7, qs_8, kc_1, kn_1, kc_2, kn_2, kc_3, kn_3, kc_4, kn_4, kc_5, kn_5, kc_6, kn_6, kc_7, kn_7, kc_8, kn_8, kc_9, kn_9, kc_10, kn_10, kc_11, kn_11, kc_12, kn_12, kc_13, kn_13, kc_14, kn_14, kc_15, kn_15, kc_16, kc_17, kc_18, kc_19, kc_20, kc_21, kc_22, kc_23, kc_30, kc_32, kc_40, kc_43, kc_45, kc_48, kc_52, kc_56, kc_57, kc_59, kc_60, kc_61, kc_63, kc_64, kc_72, kc_78, kc_97, kc_99, kc_122, kc_126, kc_128, kc_192, kc_200, kc_255, kc_999, kc_1000, kc_9999, kn_9999, kc_10000, kc_12345, kc_65536, kc_252645135, kc_858993459, kc_1103515245, kc_1431655765, kc_2147483647, kc_0, kc_24, kc_28, kc_37, kc_41, kc_42, kc_73, kc_91, kc_95, kc_96, kc_98, kc_100, kc_112, kc_125, kc_150, kc_162, kc_163, kc_168, kc_186, kc_190, kc_250, kc_355, kc_356, kc_404, kc_405, kc_429, kc_573, kc_1002, kc_1100, kc_1891, kc_2200, kc_4719, kc_4869, kc_4881, kc_5148, kc_19741, kc_25433, kc_320403, kc_628412, kc_629093, kc_660401, kc_679843, kc_918640, kc_979410, kc_1178088, kc_6232410, kc_24644941, kc_36238189, kc_38270444, kc_392531318, kc_425693491, kc_1342154595, kc_2147483648, kc_42328242873, kc_891704255789, kc_1722105685577, kc_1858726030364, ct_0, ct_1, ct_2, ct_3, ct_4, ct_5, cf_0, cf_1, cf_2, cf_3, cf_4, cf_5, w_ty6, w_ty7, m_sv, m_z0, m_hd, m_g0, m_gs, m_s0, m_ss, m_ap, m_an, forall_const, true_and, and_true, ne_eq, not_true_eq_false, not_false_eq_true, false_implies, true_implies, implies_true, eq_self, reduceCtorEq, Nat.reduceDiv, Nat.reduceMod, Int.reduceToNat, or_true, true_or, or_false, false_or, or_self, m_it, m_if, m_c1, m_01, m_02, m_03, m_04, m_10, m_12, m_13, m_14, m_20, m_21, m_23, m_24, m_30, m_31, m_32, m_34, m_40, m_41, m_42, m_43, Int.reduceLE, Int.reduceLT, Int.reduceGE, Int.reduceGT, Int.reduceNeg, Int.reduceAdd, Int.reduceSub, Int.reduceMul, Int.reduceEq, Int.reduceNe, Nat.reduceAdd, jun2, ro_0_0, ro_0_1, ro_0_2, ro_0_3, ro_0_4, ro_0_5, ro_0_6, ro_0_7, ro_0_8, ro_0_9, ro_0_10, ro_0_11, ro_0_12, ro_1_0, ro_1_1, ro_2_0, ro_4_0, ro_6_0, ro_6_1, ro_6_2, ro_6_3, ro_6_4, ro_6_5, ro_6_6, ro_6_7, ro_6_8, ro_8_0, ro_10_0, ro_12_0, ro_14_0, ro_16_0, ro_18_0, ro_20_0, ro_22_0, ro_22_1, ro_22_2, ro_23_0, ro_25_0, ro_27_0, ro_29_0, ro_29_1, ro_29_2, ro_29_3, ro_29_4, ro_29_5, ro_29_6, ro_29_7, ro_29_8, ro_31_0, ro_33_0, ro_35_0, ro_37_0, ro_39_0, ro_41_0, ro_43_0, ro_45_0, ro_45_1, ro_45_2, ro_46_0, ro_48_0, ro_50_0, ro_52_0, ro_52_1, ro_52_2, ro_52_3, ro_53_0, ro_55_0, ro_57_0, ro_59_0, ro_61_0, ro_61_1, ro_61_2, ro_61_3, ro_62_0, ro_64_0, ro_66_0, ro_68_0, ro_70_0, ro_70_1, ro_70_2, ro_70_3, ro_70_4, ro_70_5, ro_70_6, ro_70_7, ro_70_8, ro_70_9, ro_71_0, ro_73_0, ro_75_0, ro_77_0, ro_79_0, ro_81_0, ro_83_0, ro_85_0, ro_87_0, ro_89_0, ro_91_0, ro_91_1, ro_91_2, ro_91_3, ro_91_4, ro_91_5, ro_91_6, ro_91_7, ro_91_8, ro_91_9, ro_92_0, ro_94_0, ro_96_0, ro_98_0, ro_100_0, ro_102_0, ro_104_0, ro_106_0, ro_108_0, ro_110_0, ro_112_0, ro_112_1, ro_112_2, ro_112_3, ro_112_4, ro_112_5, ro_112_6, ro_112_7, ro_112_8, ro_112_9, ro_113_0, ro_115_0, ro_117_0, ro_119_0, ro_121_0, ro_123_0, ro_125_0, ro_127_0, ro_129_0, ro_131_0, ro_133_0, ro_133_1, ro_133_2, ro_133_3, ro_133_4, ro_133_5, ro_133_6, ro_133_7, ro_133_8, ro_133_9, ro_134_0, ro_136_0, ro_138_0, ro_140_0, ro_142_0, ro_144_0, ro_146_0, ro_148_0, ro_150_0, ro_152_0, ro_154_0, ro_155_0, ro_157_0, ro_157_1, ro_157_2, ro_157_3, ro_157_4, ro_157_5, ro_157_6, ro_157_7, ro_157_8, ro_157_9, ro_158_0, ro_160_0, ro_162_0, ro_164_0, ro_166_0, ro_168_0, ro_170_0, ro_172_0, ro_174_0, ro_176_0, ro_178_0, ro_180_0, ro_182_1, ro_182_4, ro_182_5, ro_182_6, ro_182_9, ro_182_10, ro_182_11, ro_182_13, ro_182_14, ro_182_15, ro_182_16, ro_182_17, ro_182_20, ro_182_21, ro_182_22, ro_182_23, ro_182_24, ro_182_26, ro_182_27, ro_182_28, lo_3, lo_5, lo_7, lo_9, lo_11, lo_13, lo_15, lo_17, lo_19, lo_21, lo_24, lo_26, lo_28, lo_30, lo_32, lo_34, lo_36, lo_38, lo_40, lo_42, lo_44, lo_47, lo_49, lo_51, lo_54, lo_56, lo_58, lo_60, lo_63, lo_65, lo_67, lo_69, lo_72, lo_74, lo_76, lo_78, lo_80, lo_82, lo_84, lo_86, lo_88, lo_90, lo_93, lo_95, lo_97, lo_99, lo_101, lo_103, lo_105, lo_107, lo_109, lo_111, lo_114, lo_116, lo_118, lo_120, lo_122, lo_124, lo_126, lo_128, lo_130, lo_132, lo_135, lo_137, lo_139, lo_141, lo_143, lo_145, lo_147, lo_149, lo_151, lo_153, lo_156, lo_159, lo_161, lo_163, lo_165, lo_167, lo_169, lo_171, lo_173, lo_175, lo_177, lo_179, lo_181, lo_183, lo_184, lo_185, lo_186, lo_187, lo_188, lo_189, lo_190, lo_191, lo_192, lo_193, lo_194, lo_195, lo_196, lo_197, lo_198, lo_199, lo_200, lo_201, lo_202, lo_203, jp_nn, jp_eq, jp_e1, Classical.not_not, ji0, ji1, ji2, cs3_191, kk_191, jl_0, jl_1, jl_2, jl_3, jl_4, jl_5, jl_6, jl_7, jl_8, jl_9, jl_10, jl_11, jl_12, jl_13, jl_14, jl_15, jl_16, jl_17, jl_18, jl_19, jl_20, jl_21, jl_22, jl_23, jl_24, jl_25, jl_26, jl_27, jl_28, jl_29, jl_30, jl_31, jl_32, jl_33, jl_34, jl_35, jl_36, jl_37, jl_38, jl_39, jl_40, jl_95, jl_96, jl_97, jl_98, jl_99, jl_100, jl_101, jl_102, jl_103, jl_104, jl_105, jl_106, jl_107, jl_108, jl_109, jl_110, jl_111, jl_112, jl_113, jl_114, jl_186, jl_1100, jr, ju, jpT, jpF, tnc, Nat.reduceEqDiff, reduceIte, and_false, false_and, not_true_eq_false, not_false_eq_true, or_false, gt_iff_lt, ge_iff_le, Int.lt_irrefl, Int.le_refl, e8, e7_w, e32, e30, e31_w, w1_w, w2_w, w4_w, v1_w, v2, v4_w, u1, u2_w, u4_w, y]
        intro _
        refine hQ _ _ f78' ?_ ?_
        · show St N (nx (sNum (h 184) (h 185) (h 186) lo_w hg i)) _
          unfold sNum
          rw [if_pos y]
          exact ⟨up_eq, v1_w⟩
        · intro v j z
          have z' : sNum (h 184) (h 185) (h 186) lo_w hg i = .ok (v, j) := z
          unfold sNum at z'
          rw [if_pos y] at z'
          cases z'
  · exact hQ.elim
theorem m_202 : BodyOK CS3 CS3 202 := fun av h Q hQ => by
  rw [cs3_202] at hQ
  unfold k202 at hQ
  split at hQ
  · rename_i t a n
    obtain ⟨rfl, hb_w, N, x, tk, st, hQ⟩ := hQ
    show pS CS3 bb_202 [182, a, n, 0] h _
    match x, st with
    | .error f, st =>
      have g1 : 0 < h 182 8 := by have := st.1; have := st.2; omega
      have g2 : ¬ h 182 8 = 0 := by omega
      have g3_w : ¬ h 182 8 ≤ 0 := by omega
      unfold bb_202
      simp only [qe_1, qe_3, qe_4, qe_5, qe_7, qe_72, qe_10, qe_102, qe_13, qe_14, qe_15, qe_16, qe_17, qe_18, qe_20, qe_22, qe_23, qe_21, qe_24, qe_25, qe_26, qe_27, qe_28, qe_30, qe_31, qe_32, qc_20, qc_22, qc_23, qc_21, qc_24, qc_25, qc_26, qc_27, qc_1, qc_3, qc_4, qc_7, qc_13, qc_28, qc_32, qs_1, qs_2, qs_3, qs_4, qs_5, qs_6, qs_9, qs_10, qs_11, qs_14, qs_15, qs_16, qs_27, qs_17, qs_18, qs_19, qs_20, qs_22, qs_23, qs_28, qs_25, qs_26, qs_7, qs_8, kc_1, kn_1, kc_2, kn_2, kc_3, kn_3, kc_4, kn_4, kc_5, kn_5, kc_6, kn_6, kc_7, kn_7, kc_8, kn_8, kc_9, kn_9, kc_10, kn_10, kc_11, kn_11, kc_12, kn_12, kc_13, kn_13, kc_14, kn_14, kc_15, kn_15, kc_16, kc_17, kc_18, kc_19, kc_20, kc_21, kc_22, kc_23, kc_30, kc_32, kc_40, kc_43, kc_45, kc_48, kc_52, kc_56, kc_57, kc_59, kc_60, kc_61, kc_63, kc_64, kc_72, kc_78, kc_97, kc_99, kc_122, kc_126, kc_128, kc_192, kc_200, kc_255, kc_999, kc_1000, kc_9999, kn_9999, kc_10000, kc_12345, kc_65536, kc_252645135, kc_858993459, kc_1103515245, kc_1431655765, kc_2147483647, kc_0, kc_24, kc_28, kc_37, kc_41, kc_42, kc_73, kc_91, kc_95, kc_96, kc_98, kc_100, kc_112, kc_125, kc_150, kc_162, kc_163, kc_168, kc_186, kc_190, kc_250, kc_355, kc_356, kc_404, kc_405, kc_429, kc_573, kc_1002, kc_1100, kc_1891, kc_2200, kc_4719, kc_4869, kc_4881, kc_5148, kc_19741, kc_25433, kc_320403, kc_628412, kc_629093, kc_660401, kc_679843, kc_918640, kc_979410, kc_1178088, kc_6232410, kc_24644941, kc_36238189, kc_38270444, kc_392531318, kc_425693491, kc_1342154595, kc_2147483648, kc_42328242873, kc_891704255789, kc_1722105685577, kc_1858726030364, ct_0, ct_1, ct_2, ct_3, ct_4, ct_5, cf_0, cf_1, cf_2, cf_3, cf_4, cf_5, w_ty6, w_ty7, m_sv, m_z0, m_hd, m_g0, m_gs, m_s0, m_ss, m_ap, m_an, forall_const, true_and, and_true, ne_eq, not_true_eq_false, not_false_eq_true, false_implies, true_implies, implies_true, eq_self, reduceCtorEq, Nat.reduceDiv, Nat.reduceMod, Int.reduceToNat, or_true, true_or, or_false, false_or, or_self, m_it, m_if, m_c1, m_01, m_02, m_03, m_04, m_10, m_12, m_13, m_14, m_20, m_21, m_23, m_24, m_30, m_31, m_32, m_34, m_40, m_41, m_42, m_43, Int.reduceLE, Int.reduceLT, Int.reduceGE, Int.reduceGT, Int.reduceNeg, Int.reduceAdd, Int.reduceSub, Int.reduceMul, Int.reduceEq, Int.reduceNe, Nat.reduceAdd, jun2, ro_0_0, ro_0_1, ro_0_2, ro_0_3, ro_0_4, ro_0_5, ro_0_6, ro_0_7, ro_0_8, ro_0_9, ro_0_10, ro_0_11, ro_0_12, ro_1_0, ro_1_1, ro_2_0, ro_4_0, ro_6_0, ro_6_1, ro_6_2, ro_6_3, ro_6_4, ro_6_5, ro_6_6, ro_6_7, ro_6_8, ro_8_0, ro_10_0, ro_12_0, ro_14_0, ro_16_0, ro_18_0, ro_20_0, ro_22_0, ro_22_1, ro_22_2, ro_23_0, ro_25_0, ro_27_0, ro_29_0, ro_29_1, ro_29_2, ro_29_3, ro_29_4, ro_29_5, ro_29_6, ro_29_7, ro_29_8, ro_31_0, ro_33_0, ro_35_0, ro_37_0, ro_39_0, ro_41_0, ro_43_0, ro_45_0, ro_45_1, ro_45_2, ro_46_0, ro_48_0, ro_50_0, ro_52_0, ro_52_1, ro_52_2, ro_52_3, ro_53_0, ro_55_0, ro_57_0, ro_59_0, ro_61_0, ro_61_1, ro_61_2, ro_61_3, ro_62_0, ro_64_0, ro_66_0, ro_68_0, ro_70_0, ro_70_1, ro_70_2, ro_70_3, ro_70_4, ro_70_5, ro_70_6, ro_70_7, ro_70_8, ro_70_9, ro_71_0, ro_73_0, ro_75_0, ro_77_0, ro_79_0, ro_81_0, ro_83_0, ro_85_0, ro_87_0, ro_89_0, ro_91_0, ro_91_1, ro_91_2, ro_91_3, ro_91_4, ro_91_5, ro_91_6, ro_91_7, ro_91_8, ro_91_9, ro_92_0, ro_94_0, ro_96_0, ro_98_0, ro_100_0, ro_102_0, ro_104_0, ro_106_0, ro_108_0, ro_110_0, ro_112_0, ro_112_1, ro_112_2, ro_112_3, ro_112_4, ro_112_5, ro_112_6, ro_112_7, ro_112_8, ro_112_9, ro_113_0, ro_115_0, ro_117_0, ro_119_0, ro_121_0, ro_123_0, ro_125_0, ro_127_0, ro_129_0, ro_131_0, ro_133_0, ro_133_1, ro_133_2, ro_133_3, ro_133_4, ro_133_5, ro_133_6, ro_133_7, ro_133_8, ro_133_9, ro_134_0, ro_136_0, ro_138_0, ro_140_0, ro_142_0, ro_144_0, ro_146_0, ro_148_0, ro_150_0, ro_152_0, ro_154_0, ro_155_0, ro_157_0, ro_157_1, ro_157_2, ro_157_3, ro_157_4, ro_157_5, ro_157_6, ro_157_7, ro_157_8, ro_157_9, ro_158_0, ro_160_0, ro_162_0, ro_164_0, ro_166_0, ro_168_0, ro_170_0, ro_172_0, ro_174_0, ro_176_0, ro_178_0, ro_180_0, ro_182_1, ro_182_4, ro_182_5, ro_182_6, ro_182_9, ro_182_10, ro_182_11, ro_182_13, ro_182_14, ro_182_15, ro_182_16, ro_182_17, ro_182_20, ro_182_21, ro_182_22, ro_182_23, ro_182_24, ro_182_26, ro_182_27, ro_182_28, lo_3, lo_5, lo_7, lo_9, lo_11, lo_13, lo_15, lo_17, lo_19, lo_21, lo_24, lo_26, lo_28, lo_30, lo_32, lo_34, lo_36, lo_38, lo_40, lo_42, lo_44, lo_47, lo_49, lo_51, lo_54, lo_56, lo_58, lo_60, lo_63, lo_65, lo_67, lo_69, lo_72, lo_74, lo_76, lo_78, lo_80, lo_82, lo_84, lo_86, lo_88, lo_90, lo_93, lo_95, lo_97, lo_99, lo_101, lo_103, lo_105, lo_107, lo_109, lo_111, lo_114, lo_116, lo_118, lo_120, lo_122, lo_124, lo_126, lo_128, lo_130, lo_132, lo_135, lo_137, lo_139, lo_141, lo_143, lo_145, lo_147, lo_149, lo_151, lo_153, lo_156, lo_159, lo_161, lo_163, lo_165, lo_167, lo_169, lo_171, lo_173, lo_175, lo_177, lo_179, lo_181, lo_183, lo_184, lo_185, lo_186, lo_187, lo_188, lo_189, lo_190, lo_191, lo_192, lo_193, lo_194, lo_195, lo_196, lo_197, lo_198, lo_199, lo_200, lo_201, lo_202, lo_203, jp_nn, jp_eq, jp_e1, Classical.not_not, ji0, ji1, ji2, cs3_191, kk_191, cs3_201, kk_201, jl_0, jl_1, jl_2, jl_3, jl_4, jl_5, jl_6, jl_7, jl_8, jl_9, jl_10, jl_11, jl_12, jl_13, jl_14, jl_15, jl_16, jl_17, jl_18, jl_19, jl_20, jl_21, jl_22, jl_23, jl_24, jl_25, jl_26, jl_27, jl_28, jl_29, jl_30, jl_31, jl_32, jl_33, jl_34, jl_35, jl_36, jl_37, jl_38, jl_39, jl_40, jl_95, jl_96, jl_97, jl_98, jl_99, jl_100, jl_101, jl_102, jl_103, jl_104, jl_105, jl_106, jl_107, jl_108, jl_109, jl_110, jl_111, jl_112, jl_113, jl_114, jl_186, jl_1100, jr, ju, jpT, jpF, tnc, Nat.reduceEqDiff, reduceIte, and_false, false_and, not_true_eq_false, not_false_eq_true, or_false, gt_iff_lt, ge_iff_le, Int.lt_irrefl, Int.le_refl, g1, g2, g3_w]
      exact hQ _ _ f78 ⟨(up_ne (fun z => absurd z.2 (by decide))).trans st.1, st.2⟩ (fun v j z => by cases z)
    | .ok i, st =>
      obtain ⟨e8, e7_w, hn⟩ := st
      have tn_w := tk.1
      have e32 : j32 ((i : Int) + 1) = ((i + 1 : Nat) : Int) := by
        rw [j32_id (by omega) (by omega)]
        omega
      have e30 : j32 ((i : Int) + 0) = (i : Int) := by
        rw [j32_id (by omega) (by omega)]
        omega
      have e31_w : j32 (((i + 1 : Nat) : Int) - 1) = (i : Int) := by
        rw [j32_id (by omega) (by omega)]
        omega
      obtain ⟨w1_w, v1_w⟩ := wr_ev (c := 1) tk hn (by decide) (by decide)
      obtain ⟨w2_w, v2⟩ := wr_ev (c := 2) tk hn (by decide) (by decide)
      obtain ⟨w4_w, v4_w⟩ := wr_ev (c := 4) tk hn (by decide) (by decide)
      have u1 : ¬ er (h 185) 1 i ≤ 0 := by omega
      have u2_w : ¬ er (h 185) 2 i ≤ 0 := by omega
      have u4_w : ¬ er (h 185) 4 i ≤ 0 := by omega
      have sp_w : ∀ (S P V W : Nat → Int) (a n : Nat), eB (.ok i) (sOne S P V W a n) = sOne S P V W a n i := fun _ _ _ _ _ _ => rfl
      rw [sp_w] at hQ
      unfold sOne at hQ
      by_cases y : wHere (h 184) (h 186) (h 187) a.toNat n.toNat i < 0
      · have y2 : ¬ 0 ≤ wHere (h 184) (h 186) (h 187) a.toNat n.toNat i := by omega
        rw [if_pos y] at hQ
        unfold bb_202
        simp only [qe_1, qe_3, qe_4, qe_5, qe_7, qe_72, qe_10, qe_102, qe_13, qe_14, qe_15, qe_16, qe_17, qe_18, qe_20, qe_22, qe_23, qe_21, qe_24, qe_25, qe_26, qe_27, qe_28, qe_30, qe_31, qe_32, qc_20, qc_22, qc_23, qc_21, qc_24, qc_25, qc_26, qc_27, qc_1, qc_3, qc_4, qc_7, qc_13, qc_28, qc_32, qs_1, qs_2, qs_3, qs_4, qs_5, qs_6, qs_9, qs_10, qs_11, qs_14, qs_15, qs_16, qs_27, qs_17, qs_18, qs_19, qs_20, qs_22, qs_23, qs_28, qs_25, qs_26, qs_7, qs_8, kc_1, kn_1, kc_2, kn_2, kc_3, kn_3, kc_4, kn_4, kc_5, kn_5, kc_6, kn_6, kc_7, kn_7, kc_8, kn_8, kc_9, kn_9, kc_10, kn_10, kc_11, kn_11, kc_12, kn_12, kc_13, kn_13, kc_14, kn_14, kc_15, kn_15, kc_16, kc_17, kc_18, kc_19, kc_20, kc_21, kc_22, kc_23, kc_30, kc_32, kc_40, kc_43, kc_45, kc_48, kc_52, kc_56, kc_57, kc_59, kc_60, kc_61, kc_63, kc_64, kc_72, kc_78, kc_97, kc_99, kc_122, kc_126, kc_128, kc_192, kc_200, kc_255, kc_999, kc_1000, kc_9999, kn_9999, kc_10000, kc_12345, kc_65536, kc_252645135, kc_858993459, kc_1103515245, kc_1431655765, kc_2147483647, kc_0, kc_24, kc_28, kc_37, kc_41, kc_42, kc_73, kc_91, kc_95, kc_96, kc_98, kc_100, kc_112, kc_125, kc_150, kc_162, kc_163, kc_168, kc_186, kc_190, kc_250, kc_355, kc_356, kc_404, kc_405, kc_429, kc_573, kc_1002, kc_1100, kc_1891, kc_2200, kc_4719, kc_4869, kc_4881, kc_5148, kc_19741, kc_25433, kc_320403, kc_628412, kc_629093, kc_660401, kc_679843, kc_918640, kc_979410, kc_1178088, kc_6232410, kc_24644941, kc_36238189, kc_38270444, kc_392531318, kc_425693491, kc_1342154595, kc_2147483648, kc_42328242873, kc_891704255789, kc_1722105685577, kc_1858726030364, ct_0, ct_1, ct_2, ct_3, ct_4, ct_5, cf_0, cf_1, cf_2, cf_3, cf_4, cf_5, w_ty6, w_ty7, m_sv, m_z0, m_hd, m_g0, m_gs, m_s0, m_ss, m_ap, m_an, forall_const, true_and, and_true, ne_eq, not_true_eq_false, not_false_eq_true, false_implies, true_implies, implies_true, eq_self, reduceCtorEq, Nat.reduceDiv, Nat.reduceMod, Int.reduceToNat, or_true, true_or, or_false, false_or, or_self, m_it, m_if, m_c1, m_01, m_02, m_03, m_04, m_10, m_12, m_13, m_14, m_20, m_21, m_23, m_24, m_30, m_31, m_32, m_34, m_40, m_41, m_42, m_43, Int.reduceLE, Int.reduceLT, Int.reduceGE, Int.reduceGT, Int.reduceNeg, Int.reduceAdd, Int.reduceSub, Int.reduceMul, Int.reduceEq, Int.reduceNe, Nat.reduceAdd, jun2, ro_0_0, ro_0_1, ro_0_2, ro_0_3, ro_0_4, ro_0_5, ro_0_6, ro_0_7, ro_0_8, ro_0_9, ro_0_10, ro_0_11, ro_0_12, ro_1_0, ro_1_1, ro_2_0, ro_4_0, ro_6_0, ro_6_1, ro_6_2, ro_6_3, ro_6_4, ro_6_5, ro_6_6, ro_6_7, ro_6_8, ro_8_0, ro_10_0, ro_12_0, ro_14_0, ro_16_0, ro_18_0, ro_20_0, ro_22_0, ro_22_1, ro_22_2, ro_23_0, ro_25_0, ro_27_0, ro_29_0, ro_29_1, ro_29_2, ro_29_3, ro_29_4, ro_29_5, ro_29_6, ro_29_7, ro_29_8, ro_31_0, ro_33_0, ro_35_0, ro_37_0, ro_39_0, ro_41_0, ro_43_0, ro_45_0, ro_45_1, ro_45_2, ro_46_0, ro_48_0, ro_50_0, ro_52_0, ro_52_1, ro_52_2, ro_52_3, ro_53_0, ro_55_0, ro_57_0, ro_59_0, ro_61_0, ro_61_1, ro_61_2, ro_61_3, ro_62_0, ro_64_0, ro_66_0, ro_68_0, ro_70_0, ro_70_1, ro_70_2, ro_70_3, ro_70_4, ro_70_5, ro_70_6, ro_70_7, ro_70_8, ro_70_9, ro_71_0, ro_73_0, ro_75_0, ro_77_0, ro_79_0, ro_81_0, ro_83_0, ro_85_0, ro_87_0, ro_89_0, ro_91_0, ro_91_1, ro_91_2, ro_91_3, ro_91_4, ro_91_5, ro_91_6, ro_91_7, ro_91_8, ro_91_9, ro_92_0, ro_94_0, ro_96_0, ro_98_0, ro_100_0, ro_102_0, ro_104_0, ro_106_0, ro_108_0, ro_110_0, ro_112_0, ro_112_1, ro_112_2, ro_112_3, ro_112_4, ro_112_5, ro_112_6, ro_112_7, ro_112_8, ro_112_9, ro_113_0, ro_115_0, ro_117_0, ro_119_0, ro_121_0, ro_123_0, ro_125_0, ro_127_0, ro_129_0, ro_131_0, ro_133_0, ro_133_1, ro_133_2, ro_133_3, ro_133_4, ro_133_5, ro_133_6, ro_133_7, ro_133_8, ro_133_9, ro_134_0, ro_136_0, ro_138_0, ro_140_0, ro_142_0, ro_144_0, ro_146_0, ro_148_0, ro_150_0, ro_152_0, ro_154_0, ro_155_0, ro_157_0, ro_157_1, ro_157_2, ro_157_3, ro_157_4, ro_157_5, ro_157_6, ro_157_7, ro_157_8, ro_157_9, ro_158_0, ro_160_0, ro_162_0, ro_164_0, ro_166_0, ro_168_0, ro_170_0, ro_172_0, ro_174_0, ro_176_0, ro_178_0, ro_180_0, ro_182_1, ro_182_4, ro_182_5, ro_182_6, ro_182_9, ro_182_10, ro_182_11, ro_182_13, ro_182_14, ro_182_15, ro_182_16, ro_182_17, ro_182_20, ro_182_21, ro_182_22, ro_182_23, ro_182_24, ro_182_26, ro_182_27, ro_182_28, lo_3, lo_5, lo_7, lo_9, lo_11, lo_13, lo_15, lo_17, lo_19, lo_21, lo_24, lo_26, lo_28, lo_30, lo_32, lo_34, lo_36, lo_38, lo_40, lo_42, lo_44, lo_47, lo_49, lo_51, lo_54, lo_56, lo_58, lo_60, lo_63, lo_65, lo_67, lo_69, lo_72, lo_74, lo_76, lo_78, lo_80, lo_82, lo_84, lo_86, lo_88, lo_90, lo_93, lo_95, lo_97, lo_99, lo_101, lo_103, lo_105, lo_107, lo_109, lo_111, lo_114, lo_116, lo_118, lo_120, lo_122, lo_124, lo_126, lo_128, lo_130, lo_132, lo_135, lo_137, lo_139, lo_141, lo_143, lo_145, lo_147, lo_149, lo_151, lo_153, lo_156, lo_159, lo_161, lo_163, lo_165, lo_167, lo_169, lo_171, lo_173, lo_175, lo_177, lo_179, lo_181, lo_183, lo_184, lo_185, lo_186, lo_187, lo_188, lo_189, lo_190, lo_191, lo_192, lo_193, lo_194, lo_195, lo_196, lo_197, lo_198, lo_199, lo_200, lo_201, lo_202, lo_203, jp_nn, jp_eq, jp_e1, Classical.not_not, ji0, ji1, ji2, cs3_191, kk_191, cs3_201, kk_201, jl_0, jl_1, jl_2, jl_3, jl_4, jl_5, jl_6, jl_7, jl_8, jl_9, jl_10, jl_11, jl_12, jl_13, jl_14, jl_15, jl_16, jl_17, jl_18, jl_19, jl_20, jl_21, jl_22, jl_23, jl_24, jl_25, jl_26, jl_27, jl_28, jl_29, jl_30, jl_31, jl_32, jl_33, jl_34, jl_35, jl_36, jl_37, jl_38, jl_39, jl_40, jl_95, jl_96, jl_97, jl_98, jl_99, jl_100, jl_101, jl_102, jl_103, jl_104, jl_105, jl_106, jl_107, jl_108, jl_109, jl_110, jl_111, jl_112, jl_113, jl_114, jl_186, jl_1100, jr, ju, jpT, jpF, tnc, Nat.reduceEqDiff, reduceIte, and_false, false_and, not_true_eq_false, not_false_eq_true, or_false, gt_iff_lt, ge_iff_le, Int.lt_irrefl, Int.le_refl, e8, e7_w, e32, e30, e31_w, w1_w, w2_w, w4_w, v1_w, v2, v4_w, u1, u2_w, u4_w, y, y2, hb_w]
        exact hQ _ _ (Fr.tr f78' f78) ⟨(up_ne (fun z => absurd z.2 (by decide))).trans up_eq, v1_w⟩ (fun v j z => by cases z)
      · have y2 : 0 ≤ wHere (h 184) (h 186) (h 187) a.toNat n.toNat i := by omega
        have lt : i < N := st_at tk hn (fun z => by
          have : wHere (h 184) (h 186) (h 187) a.toNat n.toNat i = -1 := lst_no (fun k => decide_eq_false (fun q => by have := q.1; omega)) _
          omega)
        rw [if_neg y] at hQ
        unfold bb_202
        simp only [qe_1, qe_3, qe_4, qe_5, qe_7, qe_72, qe_10, qe_102, qe_13, qe_14, qe_15, qe_16, qe_17, qe_18, qe_20, qe_22, qe_23, qe_21, qe_24, qe_25, qe_26, qe_27, qe_28, qe_30, qe_31, qe_32, qc_20, qc_22, qc_23, qc_21, qc_24, qc_25, qc_26, qc_27, qc_1, qc_3, qc_4, qc_7, qc_13, qc_28, qc_32, qs_1, qs_2, qs_3, qs_4, qs_5, qs_6, qs_9, qs_10, qs_11, qs_14, qs_15, qs_16, qs_27, qs_17, qs_18, qs_19, qs_20, qs_22, qs_23, qs_28, qs_25, qs_26, qs_7, qs_8, kc_1, kn_1, kc_2, kn_2, kc_3, kn_3, kc_4, kn_4, kc_5, kn_5, kc_6, kn_6, kc_7, kn_7, kc_8, kn_8, kc_9, kn_9, kc_10, kn_10, kc_11, kn_11, kc_12, kn_12, kc_13, kn_13, kc_14, kn_14, kc_15, kn_15, kc_16, kc_17, kc_18, kc_19, kc_20, kc_21, kc_22, kc_23, kc_30, kc_32, kc_40, kc_43, kc_45, kc_48, kc_52, kc_56, kc_57, kc_59, kc_60, kc_61, kc_63, kc_64, kc_72, kc_78, kc_97, kc_99, kc_122, kc_126, kc_128, kc_192, kc_200, kc_255, kc_999, kc_1000, kc_9999, kn_9999, kc_10000, kc_12345, kc_65536, kc_252645135, kc_858993459, kc_1103515245, kc_1431655765, kc_2147483647, kc_0, kc_24, kc_28, kc_37, kc_41, kc_42, kc_73, kc_91, kc_95, kc_96, kc_98, kc_100, kc_112, kc_125, kc_150, kc_162, kc_163, kc_168, kc_186, kc_190, kc_250, kc_355, kc_356, kc_404, kc_405, kc_429, kc_573, kc_1002, kc_1100, kc_1891, kc_2200, kc_4719, kc_4869, kc_4881, kc_5148, kc_19741, kc_25433, kc_320403, kc_628412, kc_629093, kc_660401, kc_679843, kc_918640, kc_979410, kc_1178088, kc_6232410, kc_24644941, kc_36238189, kc_38270444, kc_392531318, kc_425693491, kc_1342154595, kc_2147483648, kc_42328242873, kc_891704255789, kc_1722105685577, kc_1858726030364, ct_0, ct_1, ct_2, ct_3, ct_4, ct_5, cf_0, cf_1, cf_2, cf_3, cf_4, cf_5, w_ty6, w_ty7, m_sv, m_z0, m_hd, m_g0, m_gs, m_s0, m_ss, m_ap, m_an, forall_const, true_and, and_true, ne_eq, not_true_eq_false, not_false_eq_true, false_implies, true_implies, implies_true, eq_self, reduceCtorEq, Nat.reduceDiv, Nat.reduceMod, Int.reduceToNat, or_true, true_or, or_false, false_or, or_self, m_it, m_if, m_c1, m_01, m_02, m_03, m_04, m_10, m_12, m_13, m_14, m_20, m_21, m_23, m_24, m_30, m_31, m_32, m_34, m_40, m_41, m_42, m_43, Int.reduceLE, Int.reduceLT, Int.reduceGE, Int.reduceGT, Int.reduceNeg, Int.reduceAdd, Int.reduceSub, Int.reduceMul, Int.reduceEq, Int.reduceNe, Nat.reduceAdd, jun2, ro_0_0, ro_0_1, ro_0_2, ro_0_3, ro_0_4, ro_0_5, ro_0_6, ro_0_7, ro_0_8, ro_0_9, ro_0_10, ro_0_11, ro_0_12, ro_1_0, ro_1_1, ro_2_0, ro_4_0, ro_6_0, ro_6_1, ro_6_2, ro_6_3, ro_6_4, ro_6_5, ro_6_6, ro_6_7, ro_6_8, ro_8_0, ro_10_0, ro_12_0, ro_14_0, ro_16_0, ro_18_0, ro_20_0, ro_22_0, ro_22_1, ro_22_2, ro_23_0, ro_25_0, ro_27_0, ro_29_0, ro_29_1, ro_29_2, ro_29_3, ro_29_4, ro_29_5, ro_29_6, ro_29_7, ro_29_8, ro_31_0, ro_33_0, ro_35_0, ro_37_0, ro_39_0, ro_41_0, ro_43_0, ro_45_0, ro_45_1, ro_45_2, ro_46_0, ro_48_0, ro_50_0, ro_52_0, ro_52_1, ro_52_2, ro_52_3, ro_53_0, ro_55_0, ro_57_0, ro_59_0, ro_61_0, ro_61_1, ro_61_2, ro_61_3, ro_62_0, ro_64_0, ro_66_0, ro_68_0, ro_70_0, ro_70_1, ro_70_2, ro_70_3, ro_70_4, ro_70_5, ro_70_6, ro_70_7, ro_70_8, ro_70_9, ro_71_0, ro_73_0, ro_75_0, ro_77_0, ro_79_0, ro_81_0, ro_83_0, ro_85_0, ro_87_0, ro_89_0, ro_91_0, ro_91_1, ro_91_2, ro_91_3, ro_91_4, ro_91_5, ro_91_6, ro_91_7, ro_91_8, ro_91_9, ro_92_0, ro_94_0, ro_96_0, ro_98_0, ro_100_0, ro_102_0, ro_104_0, ro_106_0, ro_108_0, ro_110_0, ro_112_0, ro_112_1, ro_112_2, ro_112_3, ro_112_4, ro_112_5, ro_112_6, ro_112_7, ro_112_8, ro_112_9, ro_113_0, ro_115_0, ro_117_0, ro_119_0, ro_121_0, ro_123_0, ro_125_0, ro_127_0, ro_129_0, ro_131_0, ro_133_0, ro_133_1, ro_133_2, ro_133_3, ro_133_4, ro_133_5, ro_133_6, ro_133_7, ro_133_8, ro_133_9, ro_134_0, ro_136_0, ro_138_0, ro_140_0, ro_142_0, ro_144_0, ro_146_0, ro_148_0, ro_150_0, ro_152_0, ro_154_0, ro_155_0, ro_157_0, ro_157_1, ro_157_2, ro_157_3, ro_157_4, ro_157_5, ro_157_6, ro_157_7, ro_157_8, ro_157_9, ro_158_0, ro_160_0, ro_162_0, ro_164_0, ro_166_0, ro_168_0, ro_170_0, ro_172_0, ro_174_0, ro_176_0, ro_178_0, ro_180_0, ro_182_1, ro_182_4, ro_182_5, ro_182_6, ro_182_9, ro_182_10, ro_182_11, ro_182_13, ro_182_14, ro_182_15, ro_182_16, ro_182_17, ro_182_20, ro_182_21, ro_182_22, ro_182_23, ro_182_24, ro_182_26, ro_182_27, ro_182_28, lo_3, lo_5, lo_7, lo_9, lo_11, lo_13, lo_15, lo_17, lo_19, lo_21, lo_24, lo_26, lo_28, lo_30, lo_32, lo_34, lo_36, lo_38, lo_40, lo_42, lo_44, lo_47, lo_49, lo_51, lo_54, lo_56, lo_58, lo_60, lo_63, lo_65, lo_67, lo_69, lo_72, lo_74, lo_76, lo_78, lo_80, lo_82, lo_84, lo_86, lo_88, lo_90, lo_93, lo_95, lo_97, lo_99, lo_101, lo_103, lo_105, lo_107, lo_109, lo_111, lo_114, lo_116, lo_118, lo_120, lo_122, lo_124, lo_126, lo_128, lo_130, lo_132, lo_135, lo_137, lo_139, lo_141, lo_143, lo_145, lo_147, lo_149, lo_151, lo_153, lo_156, lo_159, lo_161, lo_163, lo_165, lo_167, lo_169, lo_171, lo_173, lo_175, lo_177, lo_179, lo_181, lo_183, lo_184, lo_185, lo_186, lo_187, lo_188, lo_189, lo_190, lo_191, lo_192, lo_193, lo_194, lo_195, lo_196, lo_197, lo_198, lo_199, lo_200, lo_201, lo_202, lo_203, jp_nn, jp_eq, jp_e1, Classical.not_not, ji0, ji1, ji2, cs3_191, kk_191, cs3_201, kk_201, jl_0, jl_1, jl_2, jl_3, jl_4, jl_5, jl_6, jl_7, jl_8, jl_9, jl_10, jl_11, jl_12, jl_13, jl_14, jl_15, jl_16, jl_17, jl_18, jl_19, jl_20, jl_21, jl_22, jl_23, jl_24, jl_25, jl_26, jl_27, jl_28, jl_29, jl_30, jl_31, jl_32, jl_33, jl_34, jl_35, jl_36, jl_37, jl_38, jl_39, jl_40, jl_95, jl_96, jl_97, jl_98, jl_99, jl_100, jl_101, jl_102, jl_103, jl_104, jl_105, jl_106, jl_107, jl_108, jl_109, jl_110, jl_111, jl_112, jl_113, jl_114, jl_186, jl_1100, jr, ju, jpT, jpF, tnc, Nat.reduceEqDiff, reduceIte, and_false, false_and, not_true_eq_false, not_false_eq_true, or_false, gt_iff_lt, ge_iff_le, Int.lt_irrefl, Int.le_refl, e8, e7_w, e32, e30, e31_w, w1_w, w2_w, w4_w, v1_w, v2, v4_w, u1, u2_w, u4_w, y, y2, hb_w]
        exact hQ _ _ f78 ⟨(up_ne (fun z => absurd z.2 (by decide))).trans e8, up_eq, lt⟩ (fun v j z => by cases z; rfl)
  · exact hQ.elim
theorem m_205 : BodyOK CS3 CS3 205 := fun av h Q hQ => by
  rw [cs3_205] at hQ
  unfold k205 at hQ
  split at hQ
  · rename_i t a n
    obtain ⟨rfl, l, rfl, a0_w, a1_w, l1, hl, N, x, tk, st, hQ⟩ := hQ
    show pS CS3 bb_205 [182, a, (l.length : Int), 0] h _
    match x, st with
    | .error f, st =>
      have g1 : 0 < h 182 8 := by have := st.1; have := st.2; omega
      have g2 : ¬ h 182 8 = 0 := by omega
      have g3_w : ¬ h 182 8 ≤ 0 := by omega
      unfold bb_205
      simp only [qe_1, qe_3, qe_4, qe_5, qe_7, qe_72, qe_10, qe_102, qe_13, qe_14, qe_15, qe_16, qe_17, qe_18, qe_20, qe_22, qe_23, qe_21, qe_24, qe_25, qe_26, qe_27, qe_28, qe_30, qe_31, qe_32, qc_20, qc_22, qc_23, qc_21, qc_24, qc_25, qc_26, qc_27, qc_1, qc_3, qc_4, qc_7, qc_13, qc_28, qc_32, qs_1, qs_2, qs_3, qs_4, qs_5, qs_6, qs_9, qs_10, qs_11, qs_14, qs_15, qs_16, qs_27, qs_17, qs_18, qs_19, qs_20, qs_22, qs_23, qs_28, qs_25, qs_26, qs_7, qs_8, kc_1, kn_1, kc_2, kn_2, kc_3, kn_3, kc_4, kn_4, kc_5, kn_5, kc_6, kn_6, kc_7, kn_7, kc_8, kn_8, kc_9, kn_9, kc_10, kn_10, kc_11, kn_11, kc_12, kn_12, kc_13, kn_13, kc_14, kn_14, kc_15, kn_15, kc_16, kc_17, kc_18, kc_19, kc_20, kc_21, kc_22, kc_23, kc_30, kc_32, kc_40, kc_43, kc_45, kc_48, kc_52, kc_56, kc_57, kc_59, kc_60, kc_61, kc_63, kc_64, kc_72, kc_78, kc_97, kc_99, kc_122, kc_126, kc_128, kc_192, kc_200, kc_255, kc_999, kc_1000, kc_9999, kn_9999, kc_10000, kc_12345, kc_65536, kc_252645135, kc_858993459, kc_1103515245, kc_1431655765, kc_2147483647, kc_0, kc_24, kc_28, kc_37, kc_41, kc_42, kc_73, kc_91, kc_95, kc_96, kc_98, kc_100, kc_112, kc_125, kc_150, kc_162, kc_163, kc_168, kc_186, kc_190, kc_250, kc_355, kc_356, kc_404, kc_405, kc_429, kc_573, kc_1002, kc_1100, kc_1891, kc_2200, kc_4719, kc_4869, kc_4881, kc_5148, kc_19741, kc_25433, kc_320403, kc_628412, kc_629093, kc_660401, kc_679843, kc_918640, kc_979410, kc_1178088, kc_6232410, kc_24644941, kc_36238189, kc_38270444, kc_392531318, kc_425693491, kc_1342154595, kc_2147483648, kc_42328242873, kc_891704255789, kc_1722105685577, kc_1858726030364, ct_0, ct_1, ct_2, ct_3, ct_4, ct_5, cf_0, cf_1, cf_2, cf_3, cf_4, cf_5, w_ty6, w_ty7, m_sv, m_z0, m_hd, m_g0, m_gs, m_s0, m_ss, m_ap, m_an, forall_const, true_and, and_true, ne_eq, not_true_eq_false, not_false_eq_true, false_implies, true_implies, implies_true, eq_self, reduceCtorEq, Nat.reduceDiv, Nat.reduceMod, Int.reduceToNat, or_true, true_or, or_false, false_or, or_self, m_it, m_if, m_c1, m_01, m_02, m_03, m_04, m_10, m_12, m_13, m_14, m_20, m_21, m_23, m_24, m_30, m_31, m_32, m_34, m_40, m_41, m_42, m_43, Int.reduceLE, Int.reduceLT, Int.reduceGE, Int.reduceGT, Int.reduceNeg, Int.reduceAdd, Int.reduceSub, Int.reduceMul, Int.reduceEq, Int.reduceNe, Nat.reduceAdd, jun2, ro_0_0, ro_0_1, ro_0_2, ro_0_3, ro_0_4, ro_0_5, ro_0_6, ro_0_7, ro_0_8, ro_0_9, ro_0_10, ro_0_11, ro_0_12, ro_1_0, ro_1_1, ro_2_0, ro_4_0, ro_6_0, ro_6_1, ro_6_2, ro_6_3, ro_6_4, ro_6_5, ro_6_6, ro_6_7, ro_6_8, ro_8_0, ro_10_0, ro_12_0, ro_14_0, ro_16_0, ro_18_0, ro_20_0, ro_22_0, ro_22_1, ro_22_2, ro_23_0, ro_25_0, ro_27_0, ro_29_0, ro_29_1, ro_29_2, ro_29_3, ro_29_4, ro_29_5, ro_29_6, ro_29_7, ro_29_8, ro_31_0, ro_33_0, ro_35_0, ro_37_0, ro_39_0, ro_41_0, ro_43_0, ro_45_0, ro_45_1, ro_45_2, ro_46_0, ro_48_0, ro_50_0, ro_52_0, ro_52_1, ro_52_2, ro_52_3, ro_53_0, ro_55_0, ro_57_0, ro_59_0, ro_61_0, ro_61_1, ro_61_2, ro_61_3, ro_62_0, ro_64_0, ro_66_0, ro_68_0, ro_70_0, ro_70_1, ro_70_2, ro_70_3, ro_70_4, ro_70_5, ro_70_6, ro_70_7, ro_70_8, ro_70_9, ro_71_0, ro_73_0, ro_75_0, ro_77_0, ro_79_0, ro_81_0, ro_83_0, ro_85_0, ro_87_0, ro_89_0, ro_91_0, ro_91_1, ro_91_2, ro_91_3, ro_91_4, ro_91_5, ro_91_6, ro_91_7, ro_91_8, ro_91_9, ro_92_0, ro_94_0, ro_96_0, ro_98_0, ro_100_0, ro_102_0, ro_104_0, ro_106_0, ro_108_0, ro_110_0, ro_112_0, ro_112_1, ro_112_2, ro_112_3, ro_112_4, ro_112_5, ro_112_6, ro_112_7, ro_112_8, ro_112_9, ro_113_0, ro_115_0, ro_117_0, ro_119_0, ro_121_0, ro_123_0, ro_125_0, ro_127_0, ro_129_0, ro_131_0, ro_133_0, ro_133_1, ro_133_2, ro_133_3, ro_133_4, ro_133_5, ro_133_6, ro_133_7, ro_133_8, ro_133_9, ro_134_0, ro_136_0, ro_138_0, ro_140_0, ro_142_0, ro_144_0, ro_146_0, ro_148_0, ro_150_0, ro_152_0, ro_154_0, ro_155_0, ro_157_0, ro_157_1, ro_157_2, ro_157_3, ro_157_4, ro_157_5, ro_157_6, ro_157_7, ro_157_8, ro_157_9, ro_158_0, ro_160_0, ro_162_0, ro_164_0, ro_166_0, ro_168_0, ro_170_0, ro_172_0, ro_174_0, ro_176_0, ro_178_0, ro_180_0, ro_182_1, ro_182_4, ro_182_5, ro_182_6, ro_182_9, ro_182_10, ro_182_11, ro_182_13, ro_182_14, ro_182_15, ro_182_16, ro_182_17, ro_182_20, ro_182_21, ro_182_22, ro_182_23, ro_182_24, ro_182_26, ro_182_27, ro_182_28, lo_3, lo_5, lo_7, lo_9, lo_11, lo_13, lo_15, lo_17, lo_19, lo_21, lo_24, lo_26, lo_28, lo_30, lo_32, lo_34, lo_36, lo_38, lo_40, lo_42, lo_44, lo_47, lo_49, lo_51, lo_54, lo_56, lo_58, lo_60, lo_63, lo_65, lo_67, lo_69, lo_72, lo_74, lo_76, lo_78, lo_80, lo_82, lo_84, lo_86, lo_88, lo_90, lo_93, lo_95, lo_97, lo_99, lo_101, lo_103, lo_105, lo_107, lo_109, lo_111, lo_114, lo_116, lo_118, lo_120, lo_122, lo_124, lo_126, lo_128, lo_130, lo_132, lo_135, lo_137, lo_139, lo_141, lo_143, lo_145, lo_147, lo_149, lo_151, lo_153, lo_156, lo_159, lo_161, lo_163, lo_165, lo_167, lo_169, lo_171, lo_173, lo_175, lo_177, lo_179, lo_181, lo_183, lo_184, lo_185, lo_186, lo_187, lo_188, lo_189, lo_190, lo_191, lo_192, lo_193, lo_194, lo_195, lo_196, lo_197, lo_198, lo_199, lo_200, lo_201, lo_202, lo_203, jp_nn, jp_eq, jp_e1, Classical.not_not, ji0, ji1, ji2, cs3_191, kk_191, cs3_203, kk_203, cs3_204, kk_204, jl_0, jl_1, jl_2, jl_3, jl_4, jl_5, jl_6, jl_7, jl_8, jl_9, jl_10, jl_11, jl_12, jl_13, jl_14, jl_15, jl_16, jl_17, jl_18, jl_19, jl_20, jl_21, jl_22, jl_23, jl_24, jl_25, jl_26, jl_27, jl_28, jl_29, jl_30, jl_31, jl_32, jl_33, jl_34, jl_35, jl_36, jl_37, jl_38, jl_39, jl_40, jl_95, jl_96, jl_97, jl_98, jl_99, jl_100, jl_101, jl_102, jl_103, jl_104, jl_105, jl_106, jl_107, jl_108, jl_109, jl_110, jl_111, jl_112, jl_113, jl_114, jl_186, jl_1100, jr, ju, jpT, jpF, tnc, Nat.reduceEqDiff, reduceIte, and_false, false_and, not_true_eq_false, not_false_eq_true, or_false, gt_iff_lt, ge_iff_le, Int.lt_irrefl, Int.le_refl, g1, g2, g3_w]
      exact hQ _ _ f78 ⟨(up_ne (fun z => absurd z.2 (by decide))).trans st.1, st.2⟩ (fun v j z => by cases z)
    | .ok i, st =>
      obtain ⟨e8, e7_w, hn⟩ := st
      have tn_w := tk.1
      have e32 : j32 ((i : Int) + 1) = ((i + 1 : Nat) : Int) := by
        rw [j32_id (by omega) (by omega)]
        omega
      have e30 : j32 ((i : Int) + 0) = (i : Int) := by
        rw [j32_id (by omega) (by omega)]
        omega
      have e31_w : j32 (((i + 1 : Nat) : Int) - 1) = (i : Int) := by
        rw [j32_id (by omega) (by omega)]
        omega
      obtain ⟨w1_w, v1_w⟩ := wr_ev (c := 1) tk hn (by decide) (by decide)
      obtain ⟨w2_w, v2⟩ := wr_ev (c := 2) tk hn (by decide) (by decide)
      obtain ⟨w4_w, v4_w⟩ := wr_ev (c := 4) tk hn (by decide) (by decide)
      have u1 : ¬ er (h 185) 1 i ≤ 0 := by omega
      have u2_w : ¬ er (h 185) 2 i ≤ 0 := by omega
      have u4_w : ¬ er (h 185) 4 i ≤ 0 := by omega
      have sp_w : ∀ (S P V W : Nat → Int), eB (.ok i) (sTold S P V W l) = sTold S P V W l i := fun _ _ _ _ => rfl
      rw [sp_w] at hQ
      unfold sTold at hQ
      by_cases y : isNm (h 184) (h 186) (h 187) i
      · have ya := y.1
        have yb := y.2
        have lt : i < N := st_at tk hn (by omega)
        rw [if_neg (fun z => z y)] at hQ
        by_cases y2 : nmAt l (h 186 i) < 0
        · have y3 : ¬ 0 ≤ nmAt l (h 186 i) := by omega
          rw [if_pos y2] at hQ
          unfold bb_205
          simp only [qe_1, qe_3, qe_4, qe_5, qe_7, qe_72, qe_10, qe_102, qe_13, qe_14, qe_15, qe_16, qe_17, qe_18, qe_20, qe_22, qe_23, qe_21, qe_24, qe_25, qe_26, qe_27, qe_28, qe_30, qe_31, qe_32, qc_20, qc_22, qc_23, qc_21, qc_24, qc_25, qc_26, qc_27, qc_1, qc_3, qc_4, qc_7, qc_13, qc_28, qc_32, qs_1, qs_2, qs_3, qs_4, qs_5, qs_6, qs_9, qs_10, qs_11, qs_14, qs_15, qs_16, qs_27, qs_17, qs_18, qs_19, qs_20, qs_22, qs_23, qs_28, qs_25, qs_26, qs_7, qs_8, kc_1, kn_1, kc_2, kn_2, kc_3, kn_3, kc_4, kn_4, kc_5, kn_5, kc_6, kn_6, kc_7, kn_7, kc_8, kn_8, kc_9, kn_9, kc_10, kn_10, kc_11, kn_11, kc_12, kn_12, kc_13, kn_13, kc_14, kn_14, kc_15, kn_15, kc_16, kc_17, kc_18, kc_19, kc_20, kc_21, kc_22, kc_23, kc_30, kc_32, kc_40, kc_43, kc_45, kc_48, kc_52, kc_56, kc_57, kc_59, kc_60, kc_61, kc_63, kc_64, kc_72, kc_78, kc_97, kc_99, kc_122, kc_126, kc_128, kc_192, kc_200, kc_255, kc_999, kc_1000, kc_9999, kn_9999, kc_10000, kc_12345, kc_65536, kc_252645135, kc_858993459, kc_1103515245, kc_1431655765, kc_2147483647, kc_0, kc_24, kc_28, kc_37, kc_41, kc_42, kc_73, kc_91, kc_95, kc_96, kc_98, kc_100, kc_112, kc_125, kc_150, kc_162, kc_163, kc_168, kc_186, kc_190, kc_250, kc_355, kc_356, kc_404, kc_405, kc_429, kc_573, kc_1002, kc_1100, kc_1891, kc_2200, kc_4719, kc_4869, kc_4881, kc_5148, kc_19741, kc_25433, kc_320403, kc_628412, kc_629093, kc_660401, kc_679843, kc_918640, kc_979410, kc_1178088, kc_6232410, kc_24644941, kc_36238189, kc_38270444, kc_392531318, kc_425693491, kc_1342154595, kc_2147483648, kc_42328242873, kc_891704255789, kc_1722105685577, kc_1858726030364, ct_0, ct_1, ct_2, ct_3, ct_4, ct_5, cf_0, cf_1, cf_2, cf_3, cf_4, cf_5, w_ty6, w_ty7, m_sv, m_z0, m_hd, m_g0, m_gs, m_s0, m_ss, m_ap, m_an, forall_const, true_and, and_true, ne_eq, not_true_eq_false, not_false_eq_true, false_implies, true_implies, implies_true, eq_self, reduceCtorEq, Nat.reduceDiv, Nat.reduceMod, Int.reduceToNat, or_true, true_or, or_false, false_or, or_self, m_it, m_if, m_c1, m_01, m_02, m_03, m_04, m_10, m_12, m_13, m_14, m_20, m_21, m_23, m_24, m_30, m_31, m_32, m_34, m_40, m_41, m_42, m_43, Int.reduceLE, Int.reduceLT, Int.reduceGE, Int.reduceGT, Int.reduceNeg, Int.reduceAdd, Int.reduceSub, Int.reduceMul, Int.reduceEq, Int.reduceNe, Nat.reduceAdd, jun2, ro_0_0, ro_0_1, ro_0_2, ro_0_3, ro_0_4, ro_0_5, ro_0_6, ro_0_7, ro_0_8, ro_0_9, ro_0_10, ro_0_11, ro_0_12, ro_1_0, ro_1_1, ro_2_0, ro_4_0, ro_6_0, ro_6_1, ro_6_2, ro_6_3, ro_6_4, ro_6_5, ro_6_6, ro_6_7, ro_6_8, ro_8_0, ro_10_0, ro_12_0, ro_14_0, ro_16_0, ro_18_0, ro_20_0, ro_22_0, ro_22_1, ro_22_2, ro_23_0, ro_25_0, ro_27_0, ro_29_0, ro_29_1, ro_29_2, ro_29_3, ro_29_4, ro_29_5, ro_29_6, ro_29_7, ro_29_8, ro_31_0, ro_33_0, ro_35_0, ro_37_0, ro_39_0, ro_41_0, ro_43_0, ro_45_0, ro_45_1, ro_45_2, ro_46_0, ro_48_0, ro_50_0, ro_52_0, ro_52_1, ro_52_2, ro_52_3, ro_53_0, ro_55_0, ro_57_0, ro_59_0, ro_61_0, ro_61_1, ro_61_2, ro_61_3, ro_62_0, ro_64_0, ro_66_0, ro_68_0, ro_70_0, ro_70_1, ro_70_2, ro_70_3, ro_70_4, ro_70_5, ro_70_6, ro_70_7, ro_70_8, ro_70_9, ro_71_0, ro_73_0, ro_75_0, ro_77_0, ro_79_0, ro_81_0, ro_83_0, ro_85_0, ro_87_0, ro_89_0, ro_91_0, ro_91_1, ro_91_2, ro_91_3, ro_91_4, ro_91_5, ro_91_6, ro_91_7, ro_91_8, ro_91_9, ro_92_0, ro_94_0, ro_96_0, ro_98_0, ro_100_0, ro_102_0, ro_104_0, ro_106_0, ro_108_0, ro_110_0, ro_112_0, ro_112_1, ro_112_2, ro_112_3, ro_112_4, ro_112_5, ro_112_6, ro_112_7, ro_112_8, ro_112_9, ro_113_0, ro_115_0, ro_117_0, ro_119_0, ro_121_0, ro_123_0, ro_125_0, ro_127_0, ro_129_0, ro_131_0, ro_133_0, ro_133_1, ro_133_2, ro_133_3, ro_133_4, ro_133_5, ro_133_6, ro_133_7, ro_133_8, ro_133_9, ro_134_0, ro_136_0, ro_138_0, ro_140_0, ro_142_0, ro_144_0, ro_146_0, ro_148_0, ro_150_0, ro_152_0, ro_154_0, ro_155_0, ro_157_0, ro_157_1, ro_157_2, ro_157_3, ro_157_4, ro_157_5, ro_157_6, ro_157_7, ro_157_8, ro_157_9, ro_158_0, ro_160_0, ro_162_0, ro_164_0, ro_166_0, ro_168_0, ro_170_0, ro_172_0, ro_174_0, ro_176_0, ro_178_0, ro_180_0, ro_182_1, ro_182_4, ro_182_5, ro_182_6, ro_182_9, ro_182_10, ro_182_11, ro_182_13, ro_182_14, ro_182_15, ro_182_16, ro_182_17, ro_182_20, ro_182_21, ro_182_22, ro_182_23, ro_182_24, ro_182_26, ro_182_27, ro_182_28, lo_3, lo_5, lo_7, lo_9, lo_11, lo_13, lo_15, lo_17, lo_19, lo_21, lo_24, lo_26, lo_28, lo_30, lo_32, lo_34, lo_36, lo_38, lo_40, lo_42, lo_44, lo_47, lo_49, lo_51, lo_54, lo_56, lo_58, lo_60, lo_63, lo_65, lo_67, lo_69, lo_72, lo_74, lo_76, lo_78, lo_80, lo_82, lo_84, lo_86, lo_88, lo_90, lo_93, lo_95, lo_97, lo_99, lo_101, lo_103, lo_105, lo_107, lo_109, lo_111, lo_114, lo_116, lo_118, lo_120, lo_122, lo_124, lo_126, lo_128, lo_130, lo_132, lo_135, lo_137, lo_139, lo_141, lo_143, lo_145, lo_147, lo_149, lo_151, lo_153, lo_156, lo_159, lo_161, lo_163, lo_165, lo_167, lo_169, lo_171, lo_173, lo_175, lo_177, lo_179, lo_181, lo_183, lo_184, lo_185, lo_186, lo_187, lo_188, lo_189, lo_190, lo_191, lo_192, lo_193, lo_194, lo_195, lo_196, lo_197, lo_198, lo_199, lo_200, lo_201, lo_202, lo_203, jp_nn, jp_eq, jp_e1, Classical.not_not, ji0, ji1, ji2, cs3_191, kk_191, cs3_203, kk_203, cs3_204, kk_204, jl_0, jl_1, jl_2, jl_3, jl_4, jl_5, jl_6, jl_7, jl_8, jl_9, jl_10, jl_11, jl_12, jl_13, jl_14, jl_15, jl_16, jl_17, jl_18, jl_19, jl_20, jl_21, jl_22, jl_23, jl_24, jl_25, jl_26, jl_27, jl_28, jl_29, jl_30, jl_31, jl_32, jl_33, jl_34, jl_35, jl_36, jl_37, jl_38, jl_39, jl_40, jl_95, jl_96, jl_97, jl_98, jl_99, jl_100, jl_101, jl_102, jl_103, jl_104, jl_105, jl_106, jl_107, jl_108, jl_109, jl_110, jl_111, jl_112, jl_113, jl_114, jl_186, jl_1100, jr, ju, jpT, jpF, tnc, Nat.reduceEqDiff, reduceIte, and_false, false_and, not_true_eq_false, not_false_eq_true, or_false, gt_iff_lt, ge_iff_le, Int.lt_irrefl, Int.le_refl, e8, e7_w, e32, e30, e31_w, w1_w, w2_w, w4_w, v1_w, v2, v4_w, u1, u2_w, u4_w, isNm, ya, yb]
          refine ⟨l, rfl, a0_w, a1_w, l1, hl, ?_⟩
          simp only [qe_1, qe_3, qe_4, qe_5, qe_7, qe_72, qe_10, qe_102, qe_13, qe_14, qe_15, qe_16, qe_17, qe_18, qe_20, qe_22, qe_23, qe_21, qe_24, qe_25, qe_26, qe_27, qe_28, qe_30, qe_31, qe_32, qc_20, qc_22, qc_23, qc_21, qc_24, qc_25, qc_26, qc_27, qc_1, qc_3, qc_4, qc_7, qc_13, qc_28, qc_32, qs_1, qs_2, qs_3, qs_4, qs_5, qs_6, qs_9, qs_10, qs_11, qs_14, qs_15, qs_16, qs_27, qs_17, qs_18, qs_19, qs_20, qs_22, qs_23, qs_28, qs_25, qs_26, qs_7, qs_8, kc_1, kn_1, kc_2, kn_2, kc_3, kn_3, kc_4, kn_4, kc_5, kn_5, kc_6, kn_6, kc_7, kn_7, kc_8, kn_8, kc_9, kn_9, kc_10, kn_10, kc_11, kn_11, kc_12, kn_12, kc_13, kn_13, kc_14, kn_14, kc_15, kn_15, kc_16, kc_17, kc_18, kc_19, kc_20, kc_21, kc_22, kc_23, kc_30, kc_32, kc_40, kc_43, kc_45, kc_48, kc_52, kc_56, kc_57, kc_59, kc_60, kc_61, kc_63, kc_64, kc_72, kc_78, kc_97, kc_99, kc_122, kc_126, kc_128, kc_192, kc_200, kc_255, kc_999, kc_1000, kc_9999, kn_9999, kc_10000, kc_12345, kc_65536, kc_252645135, kc_858993459, kc_1103515245, kc_1431655765, kc_2147483647, kc_0, kc_24, kc_28, kc_37, kc_41, kc_42, kc_73, kc_91, kc_95, kc_96, kc_98, kc_100, kc_112, kc_125, kc_150, kc_162, kc_163, kc_168, kc_186, kc_190, kc_250, kc_355, kc_356, kc_404, kc_405, kc_429, kc_573, kc_1002, kc_1100, kc_1891, kc_2200, kc_4719, kc_4869, kc_4881, kc_5148, kc_19741, kc_25433, kc_320403, kc_628412, kc_629093, kc_660401, kc_679843, kc_918640, kc_979410, kc_1178088, kc_6232410, kc_24644941, kc_36238189, kc_38270444, kc_392531318, kc_425693491, kc_1342154595, kc_2147483648, kc_42328242873, kc_891704255789, kc_1722105685577, kc_1858726030364, ct_0, ct_1, ct_2, ct_3, ct_4, ct_5, cf_0, cf_1, cf_2, cf_3, cf_4, cf_5, w_ty6, w_ty7, m_sv, m_z0, m_hd, m_g0, m_gs, m_s0, m_ss, m_ap, m_an, forall_const, true_and, and_true, ne_eq, not_true_eq_false, not_false_eq_true, false_implies, true_implies, implies_true, eq_self, reduceCtorEq, Nat.reduceDiv, Nat.reduceMod, Int.reduceToNat, or_true, true_or, or_false, false_or, or_self, m_it, m_if, m_c1, m_01, m_02, m_03, m_04, m_10, m_12, m_13, m_14, m_20, m_21, m_23, m_24, m_30, m_31, m_32, m_34, m_40, m_41, m_42, m_43, Int.reduceLE, Int.reduceLT, Int.reduceGE, Int.reduceGT, Int.reduceNeg, Int.reduceAdd, Int.reduceSub, Int.reduceMul, Int.reduceEq, Int.reduceNe, Nat.reduceAdd, jun2, ro_0_0, ro_0_1, ro_0_2, ro_0_3, ro_0_4, ro_0_5, ro_0_6, ro_0_7, ro_0_8, ro_0_9, ro_0_10, ro_0_11, ro_0_12, ro_1_0, ro_1_1, ro_2_0, ro_4_0, ro_6_0, ro_6_1, ro_6_2, ro_6_3, ro_6_4, ro_6_5, ro_6_6, ro_6_7, ro_6_8, ro_8_0, ro_10_0, ro_12_0, ro_14_0, ro_16_0, ro_18_0, ro_20_0, ro_22_0, ro_22_1, ro_22_2, ro_23_0, ro_25_0, ro_27_0, ro_29_0, ro_29_1, ro_29_2, ro_29_3, ro_29_4, ro_29_5, ro_29_6, ro_29_7, ro_29_8, ro_31_0, ro_33_0, ro_35_0, ro_37_0, ro_39_0, ro_41_0, ro_43_0, ro_45_0, ro_45_1, ro_45_2, ro_46_0, ro_48_0, ro_50_0, ro_52_0, ro_52_1, ro_52_2, ro_52_3, ro_53_0, ro_55_0, ro_57_0, ro_59_0, ro_61_0, ro_61_1, ro_61_2, ro_61_3, ro_62_0, ro_64_0, ro_66_0, ro_68_0, ro_70_0, ro_70_1, ro_70_2, ro_70_3, ro_70_4, ro_70_5, ro_70_6, ro_70_7, ro_70_8, ro_70_9, ro_71_0, ro_73_0, ro_75_0, ro_77_0, ro_79_0, ro_81_0, ro_83_0, ro_85_0, ro_87_0, ro_89_0, ro_91_0, ro_91_1, ro_91_2, ro_91_3, ro_91_4, ro_91_5, ro_91_6, ro_91_7, ro_91_8, ro_91_9, ro_92_0, ro_94_0, ro_96_0, ro_98_0, ro_100_0, ro_102_0, ro_104_0, ro_106_0, ro_108_0, ro_110_0, ro_112_0, ro_112_1, ro_112_2, ro_112_3, ro_112_4, ro_112_5, ro_112_6, ro_112_7, ro_112_8, ro_112_9, ro_113_0, ro_115_0, ro_117_0, ro_119_0, ro_121_0, ro_123_0, ro_125_0, ro_127_0, ro_129_0, ro_131_0, ro_133_0, ro_133_1, ro_133_2, ro_133_3, ro_133_4, ro_133_5, ro_133_6, ro_133_7, ro_133_8, ro_133_9, ro_134_0, ro_136_0, ro_138_0, ro_140_0, ro_142_0, ro_144_0, ro_146_0, ro_148_0, ro_150_0, ro_152_0, ro_154_0, ro_155_0, ro_157_0, ro_157_1, ro_157_2, ro_157_3, ro_157_4, ro_157_5, ro_157_6, ro_157_7, ro_157_8, ro_157_9, ro_158_0, ro_160_0, ro_162_0, ro_164_0, ro_166_0, ro_168_0, ro_170_0, ro_172_0, ro_174_0, ro_176_0, ro_178_0, ro_180_0, ro_182_1, ro_182_4, ro_182_5, ro_182_6, ro_182_9, ro_182_10, ro_182_11, ro_182_13, ro_182_14, ro_182_15, ro_182_16, ro_182_17, ro_182_20, ro_182_21, ro_182_22, ro_182_23, ro_182_24, ro_182_26, ro_182_27, ro_182_28, lo_3, lo_5, lo_7, lo_9, lo_11, lo_13, lo_15, lo_17, lo_19, lo_21, lo_24, lo_26, lo_28, lo_30, lo_32, lo_34, lo_36, lo_38, lo_40, lo_42, lo_44, lo_47, lo_49, lo_51, lo_54, lo_56, lo_58, lo_60, lo_63, lo_65, lo_67, lo_69, lo_72, lo_74, lo_76, lo_78, lo_80, lo_82, lo_84, lo_86, lo_88, lo_90, lo_93, lo_95, lo_97, lo_99, lo_101, lo_103, lo_105, lo_107, lo_109, lo_111, lo_114, lo_116, lo_118, lo_120, lo_122, lo_124, lo_126, lo_128, lo_130, lo_132, lo_135, lo_137, lo_139, lo_141, lo_143, lo_145, lo_147, lo_149, lo_151, lo_153, lo_156, lo_159, lo_161, lo_163, lo_165, lo_167, lo_169, lo_171, lo_173, lo_175, lo_177, lo_179, lo_181, lo_183, lo_184, lo_185, lo_186, lo_187, lo_188, lo_189, lo_190, lo_191, lo_192, lo_193, lo_194, lo_195, lo_196, lo_197, lo_198, lo_199, lo_200, lo_201, lo_202, lo_203, jp_nn, jp_eq, jp_e1, Classical.not_not, ji0, ji1, ji2, cs3_191, kk_191, cs3_203, kk_203, cs3_204, kk_204, jl_0, jl_1, jl_2, jl_3, jl_4, jl_5, jl_6, jl_7, jl_8, jl_9, jl_10, jl_11, jl_12, jl_13, jl_14, jl_15, jl_16, jl_17, jl_18, jl_19, jl_20, jl_21, jl_22, jl_23, jl_24, jl_25, jl_26, jl_27, jl_28, jl_29, jl_30, jl_31, jl_32, jl_33, jl_34, jl_35, jl_36, jl_37, jl_38, jl_39, jl_40, jl_95, jl_96, jl_97, jl_98, jl_99, jl_100, jl_101, jl_102, jl_103, jl_104, jl_105, jl_106, jl_107, jl_108, jl_109, jl_110, jl_111, jl_112, jl_113, jl_114, jl_186, jl_1100, jr, ju, jpT, jpF, tnc, Nat.reduceEqDiff, reduceIte, and_false, false_and, not_true_eq_false, not_false_eq_true, or_false, gt_iff_lt, ge_iff_le, Int.lt_irrefl, Int.le_refl, e8, e7_w, e32, e30, e31_w, w1_w, w2_w, w4_w, v1_w, v2, v4_w, u1, u2_w, u4_w, y2, y3]
          exact hQ _ _ (Fr.tr f78' f78) ⟨(up_ne (fun z => absurd z.2 (by decide))).trans up_eq, v2⟩ (fun v j z => by cases z)
        · have y3 : 0 ≤ nmAt l (h 186 i) := by omega
          rw [if_neg y2] at hQ
          unfold bb_205
          simp only [qe_1, qe_3, qe_4, qe_5, qe_7, qe_72, qe_10, qe_102, qe_13, qe_14, qe_15, qe_16, qe_17, qe_18, qe_20, qe_22, qe_23, qe_21, qe_24, qe_25, qe_26, qe_27, qe_28, qe_30, qe_31, qe_32, qc_20, qc_22, qc_23, qc_21, qc_24, qc_25, qc_26, qc_27, qc_1, qc_3, qc_4, qc_7, qc_13, qc_28, qc_32, qs_1, qs_2, qs_3, qs_4, qs_5, qs_6, qs_9, qs_10, qs_11, qs_14, qs_15, qs_16, qs_27, qs_17, qs_18, qs_19, qs_20, qs_22, qs_23, qs_28, qs_25, qs_26, qs_7, qs_8, kc_1, kn_1, kc_2, kn_2, kc_3, kn_3, kc_4, kn_4, kc_5, kn_5, kc_6, kn_6, kc_7, kn_7, kc_8, kn_8, kc_9, kn_9, kc_10, kn_10, kc_11, kn_11, kc_12, kn_12, kc_13, kn_13, kc_14, kn_14, kc_15, kn_15, kc_16, kc_17, kc_18, kc_19, kc_20, kc_21, kc_22, kc_23, kc_30, kc_32, kc_40, kc_43, kc_45, kc_48, kc_52, kc_56, kc_57, kc_59, kc_60, kc_61, kc_63, kc_64, kc_72, kc_78, kc_97, kc_99, kc_122, kc_126, kc_128, kc_192, kc_200, kc_255, kc_999, kc_1000, kc_9999, kn_9999, kc_10000, kc_12345, kc_65536, kc_252645135, kc_858993459, kc_1103515245, kc_1431655765, kc_2147483647, kc_0, kc_24, kc_28, kc_37, kc_41, kc_42, kc_73, kc_91, kc_95, kc_96, kc_98, kc_100, kc_112, kc_125, kc_150, kc_162, kc_163, kc_168, kc_186, kc_190, kc_250, kc_355, kc_356, kc_404, kc_405, kc_429, kc_573, kc_1002, kc_1100, kc_1891, kc_2200, kc_4719, kc_4869, kc_4881, kc_5148, kc_19741, kc_25433, kc_320403, kc_628412, kc_629093, kc_660401, kc_679843, kc_918640, kc_979410, kc_1178088, kc_6232410, kc_24644941, kc_36238189, kc_38270444, kc_392531318, kc_425693491, kc_1342154595, kc_2147483648, kc_42328242873, kc_891704255789, kc_1722105685577, kc_1858726030364, ct_0, ct_1, ct_2, ct_3, ct_4, ct_5, cf_0, cf_1, cf_2, cf_3, cf_4, cf_5, w_ty6, w_ty7, m_sv, m_z0, m_hd, m_g0, m_gs, m_s0, m_ss, m_ap, m_an, forall_const, true_and, and_true, ne_eq, not_true_eq_false, not_false_eq_true, false_implies, true_implies, implies_true, eq_self, reduceCtorEq, Nat.reduceDiv, Nat.reduceMod, Int.reduceToNat, or_true, true_or, or_false, false_or, or_self, m_it, m_if, m_c1, m_01, m_02, m_03, m_04, m_10, m_12, m_13, m_14, m_20, m_21, m_23, m_24, m_30, m_31, m_32, m_34, m_40, m_41, m_42, m_43, Int.reduceLE, Int.reduceLT, Int.reduceGE, Int.reduceGT, Int.reduceNeg, Int.reduceAdd, Int.reduceSub, Int.reduceMul, Int.reduceEq, Int.reduceNe, Nat.reduceAdd, jun2, ro_0_0, ro_0_1, ro_0_2, ro_0_3, ro_0_4, ro_0_5, ro_0_6, ro_0_7, ro_0_8, ro_0_9, ro_0_10, ro_0_11, ro_0_12, ro_1_0, ro_1_1, ro_2_0, ro_4_0, ro_6_0, ro_6_1, ro_6_2, ro_6_3, ro_6_4, ro_6_5, ro_6_6, ro_6_7, ro_6_8, ro_8_0, ro_10_0, ro_12_0, ro_14_0, ro_16_0, ro_18_0, ro_20_0, ro_22_0, ro_22_1, ro_22_2, ro_23_0, ro_25_0, ro_27_0, ro_29_0, ro_29_1, ro_29_2, ro_29_3, ro_29_4, ro_29_5, ro_29_6, ro_29_7, ro_29_8, ro_31_0, ro_33_0, ro_35_0, ro_37_0, ro_39_0, ro_41_0, ro_43_0, ro_45_0, ro_45_1, ro_45_2, ro_46_0, ro_48_0, ro_50_0, ro_52_0, ro_52_1, ro_52_2, ro_52_3, ro_53_0, ro_55_0, ro_57_0, ro_59_0, ro_61_0, ro_61_1, ro_61_2, ro_61_3, ro_62_0, ro_64_0, ro_66_0, ro_68_0, ro_70_0, ro_70_1, ro_70_2, ro_70_3, ro_70_4, ro_70_5, ro_70_6, ro_70_7, ro_70_8, ro_70_9, ro_71_0, ro_73_0, ro_75_0, ro_77_0, ro_79_0, ro_81_0, ro_83_0, ro_85_0, ro_87_0, ro_89_0, ro_91_0, ro_91_1, ro_91_2, ro_91_3, ro_91_4, ro_91_5, ro_91_6, ro_91_7, ro_91_8, ro_91_9, ro_92_0, ro_94_0, ro_96_0, ro_98_0, ro_100_0, ro_102_0, ro_104_0, ro_106_0, ro_108_0, ro_110_0, ro_112_0, ro_112_1, ro_112_2, ro_112_3, ro_112_4, ro_112_5, ro_112_6, ro_112_7, ro_112_8, ro_112_9, ro_113_0, ro_115_0, ro_117_0, ro_119_0, ro_121_0, ro_123_0, ro_125_0, ro_127_0, ro_129_0, ro_131_0, ro_133_0, ro_133_1, ro_133_2, ro_133_3, ro_133_4, ro_133_5, ro_133_6, ro_133_7, ro_133_8, ro_133_9, ro_134_0, ro_136_0, ro_138_0, ro_140_0, ro_142_0, ro_144_0, ro_146_0, ro_148_0, ro_150_0, ro_152_0, ro_154_0, ro_155_0, ro_157_0, ro_157_1, ro_157_2, ro_157_3, ro_157_4, ro_157_5, ro_157_6, ro_157_7, ro_157_8, ro_157_9, ro_158_0, ro_160_0, ro_162_0, ro_164_0, ro_166_0, ro_168_0, ro_170_0, ro_172_0, ro_174_0, ro_176_0, ro_178_0, ro_180_0, ro_182_1, ro_182_4, ro_182_5, ro_182_6, ro_182_9, ro_182_10, ro_182_11, ro_182_13, ro_182_14, ro_182_15, ro_182_16, ro_182_17, ro_182_20, ro_182_21, ro_182_22, ro_182_23, ro_182_24, ro_182_26, ro_182_27, ro_182_28, lo_3, lo_5, lo_7, lo_9, lo_11, lo_13, lo_15, lo_17, lo_19, lo_21, lo_24, lo_26, lo_28, lo_30, lo_32, lo_34, lo_36, lo_38, lo_40, lo_42, lo_44, lo_47, lo_49, lo_51, lo_54, lo_56, lo_58, lo_60, lo_63, lo_65, lo_67, lo_69, lo_72, lo_74, lo_76, lo_78, lo_80, lo_82, lo_84, lo_86, lo_88, lo_90, lo_93, lo_95, lo_97, lo_99, lo_101, lo_103, lo_105, lo_107, lo_109, lo_111, lo_114, lo_116, lo_118, lo_120, lo_122, lo_124, lo_126, lo_128, lo_130, lo_132, lo_135, lo_137, lo_139, lo_141, lo_143, lo_145, lo_147, lo_149, lo_151, lo_153, lo_156, lo_159, lo_161, lo_163, lo_165, lo_167, lo_169, lo_171, lo_173, lo_175, lo_177, lo_179, lo_181, lo_183, lo_184, lo_185, lo_186, lo_187, lo_188, lo_189, lo_190, lo_191, lo_192, lo_193, lo_194, lo_195, lo_196, lo_197, lo_198, lo_199, lo_200, lo_201, lo_202, lo_203, jp_nn, jp_eq, jp_e1, Classical.not_not, ji0, ji1, ji2, cs3_191, kk_191, cs3_203, kk_203, cs3_204, kk_204, jl_0, jl_1, jl_2, jl_3, jl_4, jl_5, jl_6, jl_7, jl_8, jl_9, jl_10, jl_11, jl_12, jl_13, jl_14, jl_15, jl_16, jl_17, jl_18, jl_19, jl_20, jl_21, jl_22, jl_23, jl_24, jl_25, jl_26, jl_27, jl_28, jl_29, jl_30, jl_31, jl_32, jl_33, jl_34, jl_35, jl_36, jl_37, jl_38, jl_39, jl_40, jl_95, jl_96, jl_97, jl_98, jl_99, jl_100, jl_101, jl_102, jl_103, jl_104, jl_105, jl_106, jl_107, jl_108, jl_109, jl_110, jl_111, jl_112, jl_113, jl_114, jl_186, jl_1100, jr, ju, jpT, jpF, tnc, Nat.reduceEqDiff, reduceIte, and_false, false_and, not_true_eq_false, not_false_eq_true, or_false, gt_iff_lt, ge_iff_le, Int.lt_irrefl, Int.le_refl, e8, e7_w, e32, e30, e31_w, w1_w, w2_w, w4_w, v1_w, v2, v4_w, u1, u2_w, u4_w, isNm, ya, yb]
          refine ⟨l, rfl, a0_w, a1_w, l1, hl, ?_⟩
          simp only [qe_1, qe_3, qe_4, qe_5, qe_7, qe_72, qe_10, qe_102, qe_13, qe_14, qe_15, qe_16, qe_17, qe_18, qe_20, qe_22, qe_23, qe_21, qe_24, qe_25, qe_26, qe_27, qe_28, qe_30, qe_31, qe_32, qc_20, qc_22, qc_23, qc_21, qc_24, qc_25, qc_26, qc_27, qc_1, qc_3, qc_4, qc_7, qc_13, qc_28, qc_32, qs_1, qs_2, qs_3, qs_4, qs_5, qs_6, qs_9, qs_10, qs_11, qs_14, qs_15, qs_16, qs_27, qs_17, qs_18, qs_19, qs_20, qs_22, qs_23, qs_28, qs_25, qs_26, qs_7, qs_8, kc_1, kn_1, kc_2, kn_2, kc_3, kn_3, kc_4, kn_4, kc_5, kn_5, kc_6, kn_6, kc_7, kn_7, kc_8, kn_8, kc_9, kn_9, kc_10, kn_10, kc_11, kn_11, kc_12, kn_12, kc_13, kn_13, kc_14, kn_14, kc_15, kn_15, kc_16, kc_17, kc_18, kc_19, kc_20, kc_21, kc_22, kc_23, kc_30, kc_32, kc_40, kc_43, kc_45, kc_48, kc_52, kc_56, kc_57, kc_59, kc_60, kc_61, kc_63, kc_64, kc_72, kc_78, kc_97, kc_99, kc_122, kc_126, kc_128, kc_192, kc_200, kc_255, kc_999, kc_1000, kc_9999, kn_9999, kc_10000, kc_12345, kc_65536, kc_252645135, kc_858993459, kc_1103515245, kc_1431655765, kc_2147483647, kc_0, kc_24, kc_28, kc_37, kc_41, kc_42, kc_73, kc_91, kc_95, kc_96, kc_98, kc_100, kc_112, kc_125, kc_150, kc_162, kc_163, kc_168, kc_186, kc_190, kc_250, kc_355, kc_356, kc_404, kc_405, kc_429, kc_573, kc_1002, kc_1100, kc_1891, kc_2200, kc_4719, kc_4869, kc_4881, kc_5148, kc_19741, kc_25433, kc_320403, kc_628412, kc_629093, kc_660401, kc_679843, kc_918640, kc_979410, kc_1178088, kc_6232410, kc_24644941, kc_36238189, kc_38270444, kc_392531318, kc_425693491, kc_1342154595, kc_2147483648, kc_42328242873, kc_891704255789, kc_1722105685577, kc_1858726030364, ct_0, ct_1, ct_2, ct_3, ct_4, ct_5, cf_0, cf_1, cf_2, cf_3, cf_4, cf_5, w_ty6, w_ty7, m_sv, m_z0, m_hd, m_g0, m_gs, m_s0, m_ss, m_ap, m_an, forall_const, true_and, and_true, ne_eq, not_true_eq_false, not_false_eq_true, false_implies, true_implies, implies_true, eq_self, reduceCtorEq, Nat.reduceDiv, Nat.reduceMod, Int.reduceToNat, or_true, true_or, or_false, false_or, or_self, m_it, m_if, m_c1, m_01, m_02, m_03, m_04, m_10, m_12, m_13, m_14, m_20, m_21, m_23, m_24, m_30, m_31, m_32, m_34, m_40, m_41, m_42, m_43, Int.reduceLE, Int.reduceLT, Int.reduceGE, Int.reduceGT, Int.reduceNeg, Int.reduceAdd, Int.reduceSub, Int.reduceMul, Int.reduceEq, Int.reduceNe, Nat.reduceAdd, jun2, ro_0_0, ro_0_1, ro_0_2, ro_0_3, ro_0_4, ro_0_5, ro_0_6, ro_0_7, ro_0_8, ro_0_9, ro_0_10, ro_0_11, ro_0_12, ro_1_0, ro_1_1, ro_2_0, ro_4_0, ro_6_0, ro_6_1, ro_6_2, ro_6_3, ro_6_4, ro_6_5, ro_6_6, ro_6_7, ro_6_8, ro_8_0, ro_10_0, ro_12_0, ro_14_0, ro_16_0, ro_18_0, ro_20_0, ro_22_0, ro_22_1, ro_22_2, ro_23_0, ro_25_0, ro_27_0, ro_29_0, ro_29_1, ro_29_2, ro_29_3, ro_29_4, ro_29_5, ro_29_6, ro_29_7, ro_29_8, ro_31_0, ro_33_0, ro_35_0, ro_37_0, ro_39_0, ro_41_0, ro_43_0, ro_45_0, ro_45_1, ro_45_2, ro_46_0, ro_48_0, ro_50_0, ro_52_0, ro_52_1, ro_52_2, ro_52_3, ro_53_0, ro_55_0, ro_57_0, ro_59_0, ro_61_0, ro_61_1, ro_61_2, ro_61_3, ro_62_0, ro_64_0, ro_66_0, ro_68_0, ro_70_0, ro_70_1, ro_70_2, ro_70_3, ro_70_4, ro_70_5, ro_70_6, ro_70_7, ro_70_8, ro_70_9, ro_71_0, ro_73_0, ro_75_0, ro_77_0, ro_79_0, ro_81_0, ro_83_0, ro_85_0, ro_87_0, ro_89_0, ro_91_0, ro_91_1, ro_91_2, ro_91_3, ro_91_4, ro_91_5, ro_91_6, ro_91_7, ro_91_8, ro_91_9, ro_92_0, ro_94_0, ro_96_0, ro_98_0, ro_100_0, ro_102_0, ro_104_0, ro_106_0, ro_108_0, ro_110_0, ro_112_0, ro_112_1, ro_112_2, ro_112_3, ro_112_4, ro_112_5, ro_112_6, ro_112_7, ro_112_8, ro_112_9, ro_113_0, ro_115_0, ro_117_0, ro_119_0, ro_121_0, ro_123_0, ro_125_0, ro_127_0, ro_129_0, ro_131_0, ro_133_0, ro_133_1, ro_133_2, ro_133_3, ro_133_4, ro_133_5, ro_133_6, ro_133_7, ro_133_8, ro_133_9, ro_134_0, ro_136_0, ro_138_0, ro_140_0, ro_142_0, ro_144_0, ro_146_0, ro_148_0, ro_150_0, ro_152_0, ro_154_0, ro_155_0, ro_157_0, ro_157_1, ro_157_2, ro_157_3, ro_157_4, ro_157_5, ro_157_6, ro_157_7, ro_157_8, ro_157_9, ro_158_0, ro_160_0, ro_162_0, ro_164_0, ro_166_0, ro_168_0, ro_170_0, ro_172_0, ro_174_0, ro_176_0, ro_178_0, ro_180_0, ro_182_1, ro_182_4, ro_182_5, ro_182_6, ro_182_9, ro_182_10, ro_182_11, ro_182_13, ro_182_14, ro_182_15, ro_182_16, ro_182_17, ro_182_20, ro_182_21, ro_182_22, ro_182_23, ro_182_24, ro_182_26, ro_182_27, ro_182_28, lo_3, lo_5, lo_7, lo_9, lo_11, lo_13, lo_15, lo_17, lo_19, lo_21, lo_24, lo_26, lo_28, lo_30, lo_32, lo_34, lo_36, lo_38, lo_40, lo_42, lo_44, lo_47, lo_49, lo_51, lo_54, lo_56, lo_58, lo_60, lo_63, lo_65, lo_67, lo_69, lo_72, lo_74, lo_76, lo_78, lo_80, lo_82, lo_84, lo_86, lo_88, lo_90, lo_93, lo_95, lo_97, lo_99, lo_101, lo_103, lo_105, lo_107, lo_109, lo_111, lo_114, lo_116, lo_118, lo_120, lo_122, lo_124, lo_126, lo_128, lo_130, lo_132, lo_135, lo_137, lo_139, lo_141, lo_143, lo_145, lo_147, lo_149, lo_151, lo_153, lo_156, lo_159, lo_161, lo_163, lo_165, lo_167, lo_169, lo_171, lo_173, lo_175, lo_177, lo_179, lo_181, lo_183, lo_184, lo_185, lo_186, lo_187, lo_188, lo_189, lo_190, lo_191, lo_192, lo_193, lo_194, lo_195, lo_196, lo_197, lo_198, lo_199, lo_200, lo_201, lo_202, lo_203, jp_nn, jp_eq, jp_e1, Classical.not_not, ji0, ji1, ji2, cs3_191, kk_191, cs3_203, kk_203, cs3_204, kk_204, jl_0, jl_1, jl_2, jl_3, jl_4, jl_5, jl_6, jl_7, jl_8, jl_9, jl_10, jl_11, jl_12, jl_13, jl_14, jl_15, jl_16, jl_17, jl_18, jl_19, jl_20, jl_21, jl_22, jl_23, jl_24, jl_25, jl_26, jl_27, jl_28, jl_29, jl_30, jl_31, jl_32, jl_33, jl_34, jl_35, jl_36, jl_37, jl_38, jl_39, jl_40, jl_95, jl_96, jl_97, jl_98, jl_99, jl_100, jl_101, jl_102, jl_103, jl_104, jl_105, jl_106, jl_107, jl_108, jl_109, jl_110, jl_111, jl_112, jl_113, jl_114, jl_186, jl_1100, jr, ju, jpT, jpF, tnc, Nat.reduceEqDiff, reduceIte, and_false, false_and, not_true_eq_false, not_false_eq_true, or_false, gt_iff_lt, ge_iff_le, Int.lt_irrefl, Int.le_refl, e8, e7_w, e32, e30, e31_w, w1_w, w2_w, w4_w, v1_w, v2, v4_w, u1, u2_w, u4_w, y2, y3]
          exact hQ _ _ f78 ⟨(up_ne (fun z => absurd z.2 (by decide))).trans e8, up_eq, lt⟩ (fun v j z => by cases z; rfl)
      · have y' : ¬ (h 184 i = 1 ∧ wHere (h 184) (h 186) (h 187) 0 20 i < 0) := y
        have u1' : ¬ er (h 185) 1 i = 0 := by omega
        rw [if_pos y] at hQ
        unfold bb_205
        simp only [qe_1, qe_3, qe_4, qe_5, qe_7, qe_72, qe_10, qe_102, qe_13, qe_14, qe_15, qe_16, qe_17, qe_18, qe_20, qe_22, qe_23, qe_21, qe_24, qe_25, qe_26, qe_27, qe_28, qe_30, qe_31, qe_32, qc_20, qc_22, qc_23, qc_21, qc_24, qc_25, qc_26, qc_27, qc_1, qc_3, qc_4, qc_7, qc_13, qc_28, qc_32, qs_1, qs_2, qs_3, qs_4, qs_5, qs_6, qs_9, qs_10, qs_11, qs_14, qs_15, qs_16, qs_27, qs_17, qs_18, qs_19, qs_20, qs_22, qs_23, qs_28, qs_25, qs_26, qs_7, qs_8, kc_1, kn_1, kc_2, kn_2, kc_3, kn_3, kc_4, kn_4, kc_5, kn_5, kc_6, kn_6, kc_7, kn_7, kc_8, kn_8, kc_9, kn_9, kc_10, kn_10, kc_11, kn_11, kc_12, kn_12, kc_13, kn_13, kc_14, kn_14, kc_15, kn_15, kc_16, kc_17, kc_18, kc_19, kc_20, kc_21, kc_22, kc_23, kc_30, kc_32, kc_40, kc_43, kc_45, kc_48, kc_52, kc_56, kc_57, kc_59, kc_60, kc_61, kc_63, kc_64, kc_72, kc_78, kc_97, kc_99, kc_122, kc_126, kc_128, kc_192, kc_200, kc_255, kc_999, kc_1000, kc_9999, kn_9999, kc_10000, kc_12345, kc_65536, kc_252645135, kc_858993459, kc_1103515245, kc_1431655765, kc_2147483647, kc_0, kc_24, kc_28, kc_37, kc_41, kc_42, kc_73, kc_91, kc_95, kc_96, kc_98, kc_100, kc_112, kc_125, kc_150, kc_162, kc_163, kc_168, kc_186, kc_190, kc_250, kc_355, kc_356, kc_404, kc_405, kc_429, kc_573, kc_1002, kc_1100, kc_1891, kc_2200, kc_4719, kc_4869, kc_4881, kc_5148, kc_19741, kc_25433, kc_320403, kc_628412, kc_629093, kc_660401, kc_679843, kc_918640, kc_979410, kc_1178088, kc_6232410, kc_24644941, kc_36238189, kc_38270444, kc_392531318, kc_425693491, kc_1342154595, kc_2147483648, kc_42328242873, kc_891704255789, kc_1722105685577, kc_1858726030364, ct_0, ct_1, ct_2, ct_3, ct_4, ct_5, cf_0, cf_1, cf_2, cf_3, cf_4, cf_5, w_ty6, w_ty7, m_sv, m_z0, m_hd, m_g0, m_gs, m_s0, m_ss, m_ap, m_an, forall_const, true_and, and_true, ne_eq, not_true_eq_false, not_false_eq_true, false_implies, true_implies, implies_true, eq_self, reduceCtorEq, Nat.reduceDiv, Nat.reduceMod, Int.reduceToNat, or_true, true_or, or_false, false_or, or_self, m_it, m_if, m_c1, m_01, m_02, m_03, m_04, m_10, m_12, m_13, m_14, m_20, m_21, m_23, m_24, m_30, m_31, m_32, m_34, m_40, m_41, m_42, m_43, Int.reduceLE, Int.reduceLT, Int.reduceGE, Int.reduceGT, Int.reduceNeg, Int.reduceAdd, Int.reduceSub, Int.reduceMul, Int.reduceEq, Int.reduceNe, Nat.reduceAdd, jun2, ro_0_0, ro_0_1, ro_0_2, ro_0_3, ro_0_4, ro_0_5, ro_0_6, ro_0_7, ro_0_8, ro_0_9, ro_0_10, ro_0_11, ro_0_12, ro_1_0, ro_1_1, ro_2_0, ro_4_0, ro_6_0, ro_6_1, ro_6_2, ro_6_3, ro_6_4, ro_6_5, ro_6_6, ro_6_7, ro_6_8, ro_8_0, ro_10_0, ro_12_0, ro_14_0, ro_16_0, ro_18_0, ro_20_0, ro_22_0, ro_22_1, ro_22_2, ro_23_0, ro_25_0, ro_27_0, ro_29_0, ro_29_1, ro_29_2, ro_29_3, ro_29_4, ro_29_5, ro_29_6, ro_29_7, ro_29_8, ro_31_0, ro_33_0, ro_35_0, ro_37_0, ro_39_0, ro_41_0, ro_43_0, ro_45_0, ro_45_1, ro_45_2, ro_46_0, ro_48_0, ro_50_0, ro_52_0, ro_52_1, ro_52_2, ro_52_3, ro_53_0, ro_55_0, ro_57_0, ro_59_0, ro_61_0, ro_61_1, ro_61_2, ro_61_3, ro_62_0, ro_64_0, ro_66_0, ro_68_0, ro_70_0, ro_70_1, ro_70_2, ro_70_3, ro_70_4, ro_70_5, ro_70_6, ro_70_7, ro_70_8, ro_70_9, ro_71_0, ro_73_0, ro_75_0, ro_77_0, ro_79_0, ro_81_0, ro_83_0, ro_85_0, ro_87_0, ro_89_0, ro_91_0, ro_91_1, ro_91_2, ro_91_3, ro_91_4, ro_91_5, ro_91_6, ro_91_7, ro_91_8, ro_91_9, ro_92_0, ro_94_0, ro_96_0, ro_98_0, ro_100_0, ro_102_0, ro_104_0, ro_106_0, ro_108_0, ro_110_0, ro_112_0, ro_112_1, ro_112_2, ro_112_3, ro_112_4, ro_112_5, ro_112_6, ro_112_7, ro_112_8, ro_112_9, ro_113_0, ro_115_0, ro_117_0, ro_119_0, ro_121_0, ro_123_0, ro_125_0, ro_127_0, ro_129_0, ro_131_0, ro_133_0, ro_133_1, ro_133_2, ro_133_3, ro_133_4, ro_133_5, ro_133_6, ro_133_7, ro_133_8, ro_133_9, ro_134_0, ro_136_0, ro_138_0, ro_140_0, ro_142_0, ro_144_0, ro_146_0, ro_148_0, ro_150_0, ro_152_0, ro_154_0, ro_155_0, ro_157_0, ro_157_1, ro_157_2, ro_157_3, ro_157_4, ro_157_5, ro_157_6, ro_157_7, ro_157_8, ro_157_9, ro_158_0, ro_160_0, ro_162_0, ro_164_0, ro_166_0, ro_168_0, ro_170_0, ro_172_0, ro_174_0, ro_176_0, ro_178_0, ro_180_0, ro_182_1, ro_182_4, ro_182_5, ro_182_6, ro_182_9, ro_182_10, ro_182_11, ro_182_13, ro_182_14, ro_182_15, ro_182_16, ro_182_17, ro_182_20, ro_182_21, ro_182_22, ro_182_23, ro_182_24, ro_182_26, ro_182_27, ro_182_28, lo_3, lo_5, lo_7, lo_9, lo_11, lo_13, lo_15, lo_17, lo_19, lo_21, lo_24, lo_26, lo_28, lo_30, lo_32, lo_34, lo_36, lo_38, lo_40, lo_42, lo_44, lo_47, lo_49, lo_51, lo_54, lo_56, lo_58, lo_60, lo_63, lo_65, lo_67, lo_69, lo_72, lo_74, lo_76, lo_78, lo_80, lo_82, lo_84, lo_86, lo_88, lo_90, lo_93, lo_95, lo_97, lo_99, lo_101, lo_103, lo_105, lo_107, lo_109, lo_111, lo_114, lo_116, lo_118, lo_120, lo_122, lo_124, lo_126, lo_128, lo_130, lo_132, lo_135, lo_137, lo_139, lo_141, lo_143, lo_145, lo_147, lo_149, lo_151, lo_153, lo_156, lo_159, lo_161, lo_163, lo_165, lo_167, lo_169, lo_171, lo_173, lo_175, lo_177, lo_179, lo_181, lo_183, lo_184, lo_185, lo_186, lo_187, lo_188, lo_189, lo_190, lo_191, lo_192, lo_193, lo_194, lo_195, lo_196, lo_197, lo_198, lo_199, lo_200, lo_201, lo_202, lo_203, jp_nn, jp_eq, jp_e1, Classical.not_not, ji0, ji1, ji2, cs3_191, kk_191, cs3_203, kk_203, cs3_204, kk_204, jl_0, jl_1, jl_2, jl_3, jl_4, jl_5, jl_6, jl_7, jl_8, jl_9, jl_10, jl_11, jl_12, jl_13, jl_14, jl_15, jl_16, jl_17, jl_18, jl_19, jl_20, jl_21, jl_22, jl_23, jl_24, jl_25, jl_26, jl_27, jl_28, jl_29, jl_30, jl_31, jl_32, jl_33, jl_34, jl_35, jl_36, jl_37, jl_38, jl_39, jl_40, jl_95, jl_96, jl_97, jl_98, jl_99, jl_100, jl_101, jl_102, jl_103, jl_104, jl_105, jl_106, jl_107, jl_108, jl_109, jl_110, jl_111, jl_112, jl_113, jl_114, jl_186, jl_1100, jr, ju, jpT, jpF, tnc, Nat.reduceEqDiff, reduceIte, and_false, false_and, not_true_eq_false, not_false_eq_true, or_false, gt_iff_lt, ge_iff_le, Int.lt_irrefl, Int.le_refl, e8, e7_w, e32, e30, e31_w, w1_w, w2_w, w4_w, v1_w, v2, v4_w, u1, u2_w, u4_w, isNm, y', u1']
        exact hQ _ _ (Fr.tr f78' f78) ⟨(up_ne (fun z => absurd z.2 (by decide))).trans up_eq, v1_w⟩ (fun v j z => by cases z)
  · exact hQ.elim
theorem snd_3 {xs : Nat → Int} {L K : Nat} : ∀ n, SndC CS3 (evF xs L g_ck K g_cW g_M n) := snd_all snd_2 (fun f av h Q hQ => by
  unfold CS3 at hQ
  split at hQ
  · exact Or.inr m_194
  · exact Or.inr m_197
  · exact Or.inr m_200
  · exact Or.inr m_202
  · exact Or.inr m_205
  · exact Or.inl hQ)
end
