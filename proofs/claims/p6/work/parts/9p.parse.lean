/-! ===== the reference's parser: a line of a grid ===== -/
/-- the law_w that is_w drafted -/
def DL (h : XH) : Prop := h 188 99 = -1 ∨ h 182 8 ≠ 0 ∨ (0 ≤ h 188 99 ∧ ∃ l : List Int, Seg (h 189) (1100 + (h 188 99).toNat) l ∧ h 189 (1100 + (h 188 99).toNat + l.length) = 0 ∧ h 188 99 + l.length + 1 ≤ h 182 12 ∧ htO 0 l = some 1)
def DR (P : Int × Int) (N : Nat) (h : XH) : Prop := PK P N h ∧ h 182 12 ≤ h 182 7 ∧ DL h
def G210 (P : Int × Int) (N : Nat) (g : Nat × Nat) (F : XP) : Prop := ∀ (h : XH), DR P N h → h 182 8 = 0 → ∃ h', F 210 [182] ((a_g3, g), h) = some (1, [], ((a_g3, g), h')) ∧ DR P N h' ∧ h 182 7 ≤ h' 182 7
def B210 (P : Int × Int) (N : Nat) (h : XH) (r : List Int) (h' : XH) : Prop := r = [] ∧ DR P N h' ∧ h 182 7 ≤ h' 182 7
section PARE
variable {P : Int × Int} {N : Nat} {g : Nat × Nat} {xs : Nat → Int} {L K n : Nat} {ck : Nat → List Nat} {cW : Nat → Nat → Int} {h h' h1 h2 : XH} {F : XP}
theorem DL.pf (d : DL h) (e : PF N NL h h') : DL h' := by
  have e99_w : h' 188 99 = h 188 99 := pf_g e (fun z => z rfl)
  have e12_w : h' 182 12 = h 182 12 := e.1 182 12 (fun _ => by decide) (fun z => absurd z (by decide)) (fun z => absurd z (by decide))
  rcases d with d | d | ⟨d0_w, l, d1_w, d2_w, d3_w, d4_w⟩
  · exact Or.inl (e99_w.trans d)
  · exact Or.inr (Or.inl (by rw [e.2.2.2.1 d]; exact d))
  · refine Or.inr (Or.inr ?_)
    rw [e99_w, e12_w]
    exact ⟨d0_w, l, fun k hk => (pf_same e (by decide) (by decide) (by decide)).trans (d1_w k hk), (pf_same e (by decide) (by decide) (by decide)).trans d2_w, d3_w, d4_w⟩
theorem DR.pf (d : DR P N h) (p : PK P N h') (e : PF N NL h h') : B210 P N h [] h' := by
  have e12_w : h' 182 12 = h 182 12 := e.1 182 12 (fun _ => by decide) (fun z => absurd z (by decide)) (fun z => absurd z (by decide))
  have e7_w := e.2.2.2.2.1
  have d2_w := d.2.1
  exact ⟨rfl, ⟨p, by omega, d.2.2.pf e⟩, e7_w⟩
/-- the law's line -/
theorem law_E (hp : PK P N h) (hc_w : h 182 12 ≤ h 182 7) (h1p : PK P N h1) (e1_w : PF N (fun i => i = 186) h h1) (at1_w : h1 182 7 = h 182 7 + 1) (px : PX N (j_up h1 188 99 (h1 182 12)) h2) (q : QK P (r_T 0) (RJ P) h2) (ex_w : EX 25 (j_up h1 188 99 (h1 182 12)) h2) : B210 P N h [] (emt h2 0) := by
  have e12_w : h1 182 12 = h 182 12 := e1_w.1 182 12 (fun _ => by decide) (fun z => absurd z (by decide)) (fun z => absurd z (by decide))
  have u12 : j_up h1 188 99 (h1 182 12) 182 12 = h 182 12 := (up_ne (fun z => absurd z.1 (by decide))).trans e12_w
  have u7 : j_up h1 188 99 (h1 182 12) 182 7 = h 182 7 + 1 := (up_ne (fun z => absurd z.1 (by decide))).trans at1_w
  obtain ⟨a1_w, a2, a3, a4, a5, a6, a7, a8⟩ := px
  obtain ⟨_, ⟨t1_w, t2_w, t3_w, t4_w, t5_w, t6, t7, t8⟩, _⟩ := hp
  obtain ⟨_, ⟨s1_w, s2_w, s3_w, s4_w, s5, s6_w, s7, s8⟩, sd_w⟩ := h1p
  rw [u7] at a5 a8
  rw [u12] at a7 a8
  have o : ∀ q : Nat, q ≠ 182 → q ≠ 189 → q ≠ 188 → ∀ k, emt h2 0 q k = h1 q k := fun q z1 z2 z3 k => by
    rw [emt_ob (fun z => absurd z z1) (fun z => absurd z z2), a1_w q k (fun z => absurd z z1) (fun z => absurd z z2)]
    exact up_ne (fun z => z3 z.1)
  have o8_w : ∀ k, k ≠ 99 → emt h2 0 188 k = h1 188 k := fun k hk => by
    rw [emt_ob (fun z => absurd z (by decide)) (fun z => absurd z (by decide)), a1_w 188 k (fun z => absurd z (by decide)) (fun z => absurd z (by decide))]
    exact up_ne (fun z => hk z.2)
  have o99 : emt h2 0 188 99 = h 182 12 := by
    rw [emt_ob (fun z => absurd z (by decide)) (fun z => absurd z (by decide)), a1_w 188 99 (fun z => absurd z (by decide)) (fun z => absurd z (by decide)), up_eq, e12_w]
  refine ⟨rfl, ⟨⟨emt_QK q in_0 ⟨by omega, by omega⟩, ⟨?_, ?_, ?_, s4_w, ?_, ?_, ?_, ?_⟩, ?_⟩, ?_, ?_⟩, ?_⟩
  · rw [emt_8]
    exact a2
  · rw [emt_7]
    omega
  · rw [emt_7]
    exact a6
  · rw [o 184 (by decide) (by decide) (by decide)]
    exact s5
  · rw [emt_12]
    omega
  · rw [emt_12, emt_7]
    omega
  · intro i hi_w hs
    rw [o 184 (by decide) (by decide) (by decide)] at hs
    rw [o 186 (by decide) (by decide) (by decide)]
    exact s8 i hi_w hs
  · unfold DG
    rw [o8_w 98 (by decide), o8_w 96 (by decide)]
    refine ⟨fun m hm_w => ?_, fun c hc_w => ?_⟩
    · rw [o8_w _ (by omega)]
      exact sd_w.1 m hm_w
    · rw [o8_w _ (by omega)]
      exact sd_w.2 c hc_w
  · rw [emt_12, emt_7]
    omega
  · by_cases z : emt h2 0 182 8 = 0
    · obtain ⟨l, l1, l2, l3⟩ := ex_w (emt_8.symm.trans z)
      rw [u12] at l1 l2
      refine Or.inr (Or.inr ?_)
      rw [o99, emt_12, l2]
      refine ⟨t6, l, fun k hk => ?_, ?_, by omega, l3 0 (by decide)⟩
      · rw [emt_ob (fun z => absurd z (by decide)) (fun _ => by omega)]
        exact l1 k hk
      · unfold emt
        rw [up_ne (fun z => absurd z.1 (by decide)), show 1100 + (h 182 12).toNat + l.length = 1100 + (h2 182 12).toNat by omega, up_eq]
    · exact Or.inr (Or.inl z)
  · rw [emt_7]
    omega
theorem g_210 (c191 : G191 P N g (evF xs L ck K cW g_M n)) (c193 : G193 P N g (evF xs L ck K cW g_M n)) (c200 : G200 P N g (evF xs L ck K cW g_M n)) (c207 : G207 g (evF xs L ck K cW g_M n)) (c208 : G208 P N g (evF xs L ck K cW g_M n)) (c209 : G209 P N g (evF xs L ck K cW g_M n)) (c211 : G211 P N g (evF xs L ck K cW g_M n)) (c212 : G212 212 P N g (evF xs L ck K cW g_M n)) (c213 : G212 213 P N g (evF xs L ck K cW g_M n)) (c216 : G216 P N g (evF xs L ck K cW g_M n)) (c217 : GE 217 25 0 P N g (evF xs L ck K cW g_M n)) : G210 P N g (evF xs L ck K cW g_M (n + 1)) := fun h hd_w f0_w => by
  suffices hs : ∃ r h', evF xs L ck K cW g_M (n + 1) 210 [182] ((a_g3, g), h) = some (1, r, ((a_g3, g), h')) ∧ B210 P N h r h' by
    obtain ⟨r, h', e1_w, rfl, e2_w⟩ := hs
    exact ⟨h', e1_w, e2_w⟩
  refine tr_of gm_210 ?_
  show wS _ _ K bb_210 [182] h _
  generalize evF xs L ck K cW g_M n = F at c191 c193 c200 c207 c208 c209 c211 c212 c213 c216 c217 ⊢
  unfold bb_210
  simp only [wf_4, wf_40, wf_5, wf_50, wf_6, wl_1, wt_1, wu_1, wa_1, wl_4, wt_4, wu_4, wa_4, wl_5, wt_5, wu_5, wa_5, wl_6, wt_6, wu_6, wa_6, wl_9, wt_9, wu_9, wa_9, wl_10, wt_10, wu_10, wa_10, wl_11, wt_11, wu_11, wa_11, wl_13, wt_13, wu_13, wa_13, wl_14, wt_14, wu_14, wa_14, wl_15, wt_15, wu_15, wa_15, wl_16, wt_16, wu_16, wa_16, wl_17, wt_17, wu_17, wa_17, wl_20, wt_20, wu_20, wa_20, wl_21, wt_21, wu_21, wa_21, wl_22, wt_22, wu_22, wa_22, wl_23, wt_23, wu_23, wa_23, wl_24, wt_24, wu_24, wa_24, wl_26, wt_26, wu_26, wa_26, wl_27, wt_27, wu_27, wa_27, wl_28, wt_28, wu_28, wa_28, we_1, we_3, we_10, we_14, we_15, we_16, we_17, we_18, we_20, we_21, we_22, we_24, we_25, we_26, we_27, we_28, we_30, we_31, we_32, wc_20, wc_21, wc_22, wc_24, wc_25, wc_26, wc_27, wc_3, wc_4, wc_7, wc_28, wc_32, ws_1, ws_2, ws_3, ws_4, ws_9, ws_10, ws_11, ws_14, ws_15, ws_16, ws_27, ws_17, ws_20, ws_28, kc_0, kc_1, kn_1, kc_2, kn_2, kc_3, kc_4, kc_5, kc_6, kc_7, kc_8, kc_9, kc_10, kc_12, kc_13, kc_14, kc_16, kc_17, kc_18, kc_19, kc_20, kc_21, kc_22, kc_24, kc_28, kc_30, kc_32, kc_37, kc_40, kc_41, kc_42, kc_43, kc_45, kc_48, kc_56, kc_57, kc_59, kc_60, kc_61, kc_64, kc_73, kc_78, kc_91, kc_95, kc_96, kc_97, kc_98, kc_99, kc_100, kc_112, kc_122, kc_125, kc_126, kc_150, kc_162, kc_163, kc_168, kc_186, kc_190, kc_200, kc_250, kc_255, kc_355, kc_356, kc_404, kc_405, kc_429, kc_573, kc_999, kc_1000, kc_1002, kc_1100, kc_1891, kc_2200, kc_4719, kc_4869, kc_4881, kc_5148, kc_9999, kn_9999, kc_10000, kc_12345, kc_19741, kc_25433, kc_65536, kc_320403, kc_628412, kc_629093, kc_660401, kc_679843, kc_918640, kc_979410, kc_1178088, kc_6232410, kc_24644941, kc_36238189, kc_38270444, kc_392531318, kc_425693491, kc_1103515245, kc_1342154595, kc_2147483648, kc_42328242873, kc_891704255789, kc_1722105685577, kc_1858726030364, ct_0, ct_1, ct_2, ct_3, ct_4, ct_5, cf_0, cf_1, cf_2, cf_3, cf_4, cf_5, w_ty6, w_ty7, m_sv, m_z0, m_hd, m_g0, m_gs, m_s0, m_ss, m_ap, m_an, forall_const, true_and, and_true, ne_eq, not_true_eq_false, not_false_eq_true, false_implies, true_implies, implies_true, eq_self, reduceCtorEq, Nat.reduceDiv, Nat.reduceMod, Int.reduceToNat, or_true, true_or, or_false, false_or, or_self, m_it, m_if, m_c1, m_01, m_02, m_03, m_04, m_10, m_12, m_13, m_14, m_20, m_21, m_23, m_24, m_30, m_31, m_32, m_34, m_40, m_41, m_42, m_43]
  have hp := hd_w.1
  obtain ⟨v2, w2_w, -, i2_w⟩ := c193 h 2 hp (by decide) (by decide)
  obtain ⟨v5, w5, -, i5_w⟩ := c193 h 5 hp (by decide) (by decide)
  obtain ⟨v6, w6_w, -, i6_w⟩ := c193 h 6 hp (by decide) (by decide)
  obtain ⟨v0_w, w0_w, -, i0⟩ := c193 h 0 hp (by decide) (by decide)
  obtain ⟨v1_w, w1_w, -, i1_w⟩ := c193 h 1 hp (by decide) (by decide)
  obtain ⟨v8, w8, -, i8_w⟩ := c193 h 8 hp (by decide) (by decide)
  have wd : ∀ {w}, tkW h w → h 184 (h 182 7).toNat ≠ 0 := fun t => by rw [t.2.1]; decide
  refine ⟨[v2], h, w2_w, fun k => ?_, fun _ => ⟨[v5], h, w5, fun k => ?_, fun _ => ⟨[v6], h, w6_w, fun k => ?_, fun _ => ⟨[v0_w], h, w0_w, fun k => ?_, fun _ => ⟨[v1_w], h, w1_w, fun k => ?_, fun _ => ⟨[v8], h, w8, fun k => ?_, fun _ => ?_⟩⟩⟩⟩⟩⟩
  · obtain ⟨h1, x1_w, p1_w, e1_w⟩ := c212 h hp f0_w (wd (i2_w.mp k))
    exact ⟨[], h1, x1_w, hd_w.pf p1_w e1_w⟩
  · obtain ⟨b0, b4⟩ := r_97 hp.1
    obtain ⟨h1, x1_w, p1_w, e1_w, l1⟩ := c208 h 4 (h 188 97) 4 hp f0_w (wd (i5_w.mp k)) (by decide) b0 b4 (by decide)
    have g1 : h1 188 97 = h 188 97 := pf_g e1_w (fun z => z)
    have m1_w : PF N NL h h1 := pf_nl e1_w (fun z => z)
    have y0 : F 207 [182, 2] ((a_g3, g), h) = some (1, [h 188 97], ((a_g3, g), h)) := c207 h 2 (by decide) (by decide)
    refine ⟨_, h, y0, [], h1, x1_w, ⟨by decide, by decide⟩, fun z => ?_, fun z => ?_⟩
    · rw [jadd (by omega) (by omega), Int.add_zero, up_self]
      exact hd_w.pf p1_w m1_w
    · have z1 : h1 182 8 = 0 := by
        have := p1_w.2.1.1
        omega
      have := l1 z1
      rw [jadd (by omega) (by omega)]
      obtain ⟨q1_w, s1_w⟩ := gw_PK p1_w (i := 97) (lo_w := 97) (hi_w := 98) (u := 4) (v := h1 188 97 + 1) (by decide) (by decide) (by decide) (by omega) (by omega) (by decide +kernel) (by decide) (by decide) (by decide) (by decide) (fun k _ => by omega) (fun k _ => by omega)
      exact hd_w.pf q1_w (m1_w.tr s1_w)
  · obtain ⟨h1, x1_w, p1_w, e1_w⟩ := c213 h hp f0_w (wd (i6_w.mp k))
    exact ⟨[], h1, x1_w, hd_w.pf p1_w e1_w⟩
  · obtain ⟨v, h1, x1_w, p1_w, e1_w, ok, -⟩ := c209 h 0 hp f0_w (wd (i0.mp k)) (by decide) (by decide)
    have m1_w : PF N NL h h1 := pf_nl e1_w (fun z => absurd z (by decide))
    obtain ⟨u, h2, x2_w, a2, iu, ok2, ko2⟩ := c200 h1 1 12 p1_w ⟨by decide, by decide⟩ ⟨by decide, by decide⟩
    have u12 : 0 ≤ u ∧ u ≤ 12 := by
      by_cases z : h2 182 8 = 0
      · have := ok2 z
        omega
      · have := (ko2 z).1
        omega
    obtain ⟨q1_w, s1_w⟩ := gw_PK (p1_w.pa a2) (i := 95) (lo_w := 95) (hi_w := 96) (u := 12) (v := u) (by decide) (by decide) (by decide) u12.1 u12.2 (by decide +kernel) (by decide) (by decide) (by decide) (by decide) (fun k _ => by omega) (fun k _ => by omega)
    exact ⟨[v], h1, x1_w, fun _ => ⟨[u], h2, x2_w, ⟨by decide, by decide⟩, hd_w.pf q1_w (m1_w.tr (a2.pf.tr s1_w))⟩, fun _ => hd_w.pf p1_w m1_w⟩
  · obtain ⟨v, h1, x1_w, p1_w, e1_w, ok, -⟩ := c209 h 1 hp f0_w (wd (i1_w.mp k)) (by decide) (by decide)
    have m1_w : PF N NL h h1 := pf_nl e1_w (fun z => absurd z (by decide))
    refine ⟨[v], h1, x1_w, fun kv => ?_, fun _ => hd_w.pf p1_w m1_w⟩
    have fr : g_fit 100 112 (1, 0, 9999) = true := by decide +kernel
    obtain ⟨u, h2, x2_w, p2_w, e2_w, -⟩ := c211 h1 100 9999 p1_w (ok kv).2 ⟨by decide, by decide, by decide, by decide, fun i w j0 j1 w0_w w1_w => g_fit_ok fr (by omega) (by omega) ⟨w0_w, w1_w, by omega, by omega⟩, fun i j0 j1 => ⟨by omega, by omega, fun k => by omega, fun k => by omega⟩⟩
    exact ⟨[u], h2, x2_w, hd_w.pf p2_w (m1_w.tr (pf_nl e2_w (fun z => absurd z.1 (by decide))))⟩
  · obtain ⟨v, h1, x1_w, p1_w, e1_w, ok, -⟩ := c209 h 2 hp f0_w (wd (i8_w.mp k)) (by decide) (by decide)
    have m1_w : PF N NL h h1 := pf_nl e1_w (fun z => absurd z (by decide))
    refine ⟨[v], h1, x1_w, fun kv => ⟨⟨by decide, by decide⟩, ?_⟩, fun _ => hd_w.pf p1_w m1_w⟩
    have e12_w : h1 182 12 = h 182 12 := e1_w.1 182 12 (fun _ => by decide) (fun z => absurd z (by decide)) (fun z => absurd z (by decide))
    have at1_w := (ok kv).1
    have c0 := hp.2.1.2.2.2.2.2.1
    have t3_w := p1_w.2.1.2.2.1
    have t4_w := p1_w.2.1.2.2.2.1
    have hc_w := hd_w.2.1
    have hin : InI (h1 182 12) := ⟨by omega, by omega⟩
    have q1_w : QK P (r_T 0) (RJ P) (j_up h1 188 99 (h1 182 12)) := dw_QK p1_w.1 (ht_up p1_w.1.1 (by decide) hin) (Or.inl ⟨rfl, by decide⟩) (g_fit_ok (lo_w := 99) (hi_w := 100) (t := (1, 0, 1099)) (by decide +kernel) (by decide) (by decide) ⟨by omega, by omega, hin⟩)
    have u12 : j_up h1 188 99 (h1 182 12) 182 12 = h1 182 12 := up_ne (fun z => absurd z.1 (by decide))
    have u7 : j_up h1 188 99 (h1 182 12) 182 7 = h1 182 7 := up_ne (fun z => absurd z.1 (by decide))
    have s1_w : PF N (fun i => i = 99) h1 (j_up h1 188 99 (h1 182 12)) := ⟨fun o k e e2_w e3_w => up_ne (fun z => e2_w z.1 z.2), by rw [up_ne (fun z => absurd z.1 (by decide))]; exact p1_w.2.1.1, by rw [up_ne (fun z => absurd z.1 (by decide))]; exact ht_fld p1_w.1 rfl, fun _ => up_ne (fun z => absurd z.1 (by decide)), by rw [up_ne (fun z => absurd z.1 (by decide))]; exact Int.le_refl _, by rw [up_ne (fun z => absurd z.1 (by decide))]; exact t3_w⟩
    have p2_w : PK P N (j_up h1 188 99 (h1 182 12)) := ⟨q1_w, s1_w.pt p1_w.2.1, DG.up p1_w.1 p1_w.2.2 (up_ne (fun z => absurd z.2 (by decide))) (up_ne (fun z => absurd z.2 (by decide))) (fun k _ => up_ne (fun z => by have := z.2; omega)) (fun k _ => up_ne (fun z => by have := z.2; omega))⟩
    obtain ⟨h2, x2_w, q2_w, px, ex_w⟩ := c217 _ p2_w (by rw [u12, u7]; omega)
    have b6 := px.2.2.2.2.2.1
    have b7 := px.2.2.2.2.2.2.1
    have b8 := px.2.2.2.2.2.2.2
    rw [u12] at b7 b8
    rw [u7] at b8
    have k := c216 h2 0 0 (by omega) (by omega) (by decide) (by decide) (by decide) (by decide)
    rw [Int.mul_zero, Int.add_zero] at k
    exact ⟨[], h2, x2_w, [], emt h2 0, k, law_E hp hc_w p1_w e1_w at1_w px q2_w ex_w⟩
  · obtain ⟨h1, x1_w, a1_w, -⟩ := c191 h 1 hp (by decide) (by decide)
    exact ⟨[], h1, x1_w, hd_w.pf (hp.pa a1_w) a1_w.pf⟩
end PARE
