/-! ===== the reference's parser: a line of what is_w to be done ===== -/
def GV (f : Nat) (ps_w : List IT) (t : IT) (P : Int × Int) (g : Nat × Nat) (F : XP) : Prop := ∀ (h : XH) (av : List Int), QK P (r_T 0) (RJ P) h → IL P ps_w av → av.getD 0 0 = 182 → ∃ v, F f av ((a_g3, g), h) = some (1, [v], ((a_g3, g), h)) ∧ IV P t v
/-- at, fault and the four numbers_w of a line alone_w are written_w -/
def PL (N : Nat) (lo_w hi_w : Nat) (h h' : XH) : Prop := (∀ o k : Nat, (o = 182 → k ≠ 7 ∧ k ≠ 8) → (o = 191 → k < lo_w ∨ hi_w ≤ k) → h' o k = h o k) ∧ 0 ≤ h' 182 8 ∧ InI (h' 182 8) ∧ (h 182 8 ≠ 0 → h' 182 8 = h 182 8) ∧ h 182 7 ≤ h' 182 7 ∧ h' 182 7 ≤ (N : Int)
def G215 (P : Int × Int) (N : Nat) (g : Nat × Nat) (F : XP) : Prop := ∀ (h : XH) (a : Nat) (b : Int), PK P N h → 125 ≤ a → a ≤ 246 → 0 ≤ b → b ≤ 3 → ∃ h', F 215 [182, (a : Int), b] ((a_g3, g), h) = some (1, [], ((a_g3, g), h')) ∧ PK P N h' ∧ PL N a (a + 4) h h' ∧ (h' 182 8 = 0 → LineOK P (h' 191 a) (h' 191 (a + 1)) (h' 191 (a + 2)) (h' 191 (a + 3)))
section PARG
variable {P : Int × Int} {N : Nat} {g : Nat × Nat} {xs : Nat → Int} {L K n : Nat} {ck : Nat → List Nat} {cW : Nat → Nat → Int} {h h' h1 h2 : XH} {F : XP}
theorem gv_of {f : Nat} {ps_w : List IT} {t : IT} (hK2 : 20000000000 ≤ K) (hd_w : r_dp f < n) (hn : n < 99999) (hP : qP (r_T 0) f = ps_w) (hR : qR (r_T 0) f = [t]) (hC : m_in f = true) (hW : m_W f = ([], [])) : GV f ps_w t P g (evF xs L ck K cW g_M n) := fun h av hQ hv h0 => by
  obtain ⟨v, h2, e1_w, e2_w, e3_w, e4_w⟩ := use1 (r_ref hK2 hd_w hn) hP hR hQ hv
  have k := (fr_all n f av (a_g3, g) h 1 [v] (a_g3, g) h2 hC rfl (Or.inr h0) e1_w).2
  rw [hW] at k
  rw [Fr.pure k] at e1_w
  exact ⟨v, e1_w, e4_w⟩
theorem PA.pl {lo_w hi_w : Nat} (a : PA N h h') : PL N lo_w hi_w h h' := ⟨fun o k e _ => a.1 o k e, a.2⟩
theorem PL.tr {lo_w hi_w : Nat} (a : PL N lo_w hi_w h h') (b : PL N lo_w hi_w h' h2) : PL N lo_w hi_w h h2 := by
  obtain ⟨a1_w, a2, a3, a4, a5, a6⟩ := a
  obtain ⟨b1, b2, b3, b4, b5, b6⟩ := b
  exact ⟨fun o k e e2_w => (b1 o k e e2_w).trans (a1_w o k e e2_w), b2, b3, fun e => by rw [b4 (by rw [a4 e]; exact e), a4 e], by omega, b6⟩
/-- a cell_w of the drafted lines is_w written_w -/
theorem lw_PK (hp : PK P N h) {lo_w hi_w i : Nat} {v : Int} (h0 : 125 ≤ i) (h1 : lo_w ≤ i) (h2 : i < hi_w) (hv : InI v) : PK P N (j_up h 191 i v) ∧ PL N lo_w hi_w h (j_up h 191 i v) := by
  have q : QK P (r_T 0) (RJ P) (j_up h 191 i v) := dw_QK hp.1 (ht_up hp.1.1 (by decide) hv) (Or.inr (Or.inr (Or.inr ⟨rfl, h0⟩))) (fun r hr k1_w k2 => by
    have hr2 : r ∈ [(0, 1, ((1, 0, 30) : IT)), (1, 250, (1, (-2147483648), 2147483647))] := hr
    rcases List.mem_cons.mp hr2 with rfl | hr3
    · have : i < 1 := k2
      omega
    · rw [List.mem_singleton] at hr3
      subst hr3
      exact IV.top hv)
  have e8 : j_up h 191 i v 182 8 = h 182 8 := up_ne (fun z => absurd z.1 (by decide))
  have e7_w : j_up h 191 i v 182 7 = h 182 7 := up_ne (fun z => absurd z.1 (by decide))
  have e : PL N lo_w hi_w h (j_up h 191 i v) := ⟨fun o k e e2_w => up_ne (fun z => by have := e2_w z.1; have := z.2; omega), by rw [e8]; exact hp.2.1.1, by rw [e8]; exact ht_fld hp.1 rfl, fun _ => e8, by rw [e7_w]; exact Int.le_refl _, by rw [e7_w]; exact hp.2.1.2.2.1⟩
  obtain ⟨_, ⟨p1_w, p2_w, p3_w, p4_w, p5_w, p6_w, p7_w, p8_w⟩, d⟩ := hp
  have o : ∀ q : Nat, q ≠ 191 → ∀ k, j_up h 191 i v q k = h q k := fun q hq k => up_ne (fun z => hq z.1)
  refine ⟨⟨q, ⟨by rw [e8]; exact p1_w, by rw [e7_w]; exact p2_w, by rw [e7_w]; exact p3_w, p4_w, by rw [o 184 (by decide)]; exact p5_w, by rw [o 182 (by decide)]; exact p6_w, by rw [e7_w, o 182 (by decide)]; exact p7_w, fun j hj hs => ?_⟩, ?_⟩, e⟩
  · rw [o 184 (by decide)] at hs
    rw [o 186 (by decide)]
    exact p8_w j hj hs
  · unfold DG
    have e188 : j_up h 191 i v 188 = h 188 := funext fun k => o 188 (by decide) k
    rw [e188]
    exact d
def B215 (P : Int × Int) (N a : Nat) (h : XH) (r : List Int) (h' : XH) : Prop := r = [] ∧ PK P N h' ∧ PL N a (a + 4) h h' ∧ (h' 182 8 = 0 → LineOK P (h' 191 a) (h' 191 (a + 1)) (h' 191 (a + 2)) (h' 191 (a + 3)))
theorem g_215 (c200 : G200 P N g (evF xs L ck K cW g_M n)) (c205 : G205 P N g (evF xs L ck K cW g_M n)) (c225 : GV 225 [(4, 182, 182)] (1, 0, 12) P g (evF xs L ck K cW g_M n)) (c227 : GV 227 [(4, 182, 182)] (1, 0, 4) P g (evF xs L ck K cW g_M n)) (c228 : GV 228 [(4, 182, 182)] (7, 0, 0) P g (evF xs L ck K cW g_M n)) (c233 : GV 233 [(4, 182, 182), (5, 0, 0)] (1, (-1), 12) P g (evF xs L ck K cW g_M n)) (c234 : GV 234 [(4, 182, 182), (5, 0, 0)] (1, 0, 9999) P g (evF xs L ck K cW g_M n)) : G215 P N g (evF xs L ck K cW g_M (n + 1)) := fun h a b hp a0_w a1_w b0 b3 => by
  suffices hs : ∃ r h', evF xs L ck K cW g_M (n + 1) 215 [182, (a : Int), b] ((a_g3, g), h) = some (1, r, ((a_g3, g), h')) ∧ B215 P N a h r h' by
    obtain ⟨r, h', e1_w, rfl, e2_w⟩ := hs
    exact ⟨h', e1_w, e2_w⟩
  refine tr_of gm_215 ?_
  show wS _ _ K bb_215 [182, (a : Int), b, 0] h _
  generalize evF xs L ck K cW g_M n = F at c200 c205 c225 c227 c228 c233 c234 ⊢
  unfold bb_215
  simp only [wf_4, wf_40, wf_5, wf_50, wf_6, wl_1, wt_1, wu_1, wa_1, wl_4, wt_4, wu_4, wa_4, wl_5, wt_5, wu_5, wa_5, wl_6, wt_6, wu_6, wa_6, wl_9, wt_9, wu_9, wa_9, wl_10, wt_10, wu_10, wa_10, wl_11, wt_11, wu_11, wa_11, wl_13, wt_13, wu_13, wa_13, wl_14, wt_14, wu_14, wa_14, wl_15, wt_15, wu_15, wa_15, wl_16, wt_16, wu_16, wa_16, wl_17, wt_17, wu_17, wa_17, wl_20, wt_20, wu_20, wa_20, wl_21, wt_21, wu_21, wa_21, wl_22, wt_22, wu_22, wa_22, wl_23, wt_23, wu_23, wa_23, wl_24, wt_24, wu_24, wa_24, wl_26, wt_26, wu_26, wa_26, wl_27, wt_27, wu_27, wa_27, wl_28, wt_28, wu_28, wa_28, we_1, we_3, we_10, we_14, we_15, we_16, we_17, we_18, we_20, we_21, we_22, we_24, we_25, we_26, we_27, we_28, we_30, we_31, we_32, wc_20, wc_21, wc_22, wc_24, wc_25, wc_26, wc_27, wc_3, wc_4, wc_7, wc_28, wc_32, ws_1, ws_2, ws_3, ws_4, ws_9, ws_10, ws_11, ws_14, ws_15, ws_16, ws_27, ws_17, ws_20, ws_28, kc_0, kc_1, kn_1, kc_2, kn_2, kc_3, kc_4, kc_5, kc_6, kc_7, kc_8, kc_9, kc_10, kc_12, kc_13, kc_14, kc_16, kc_17, kc_18, kc_19, kc_20, kc_21, kc_22, kc_24, kc_28, kc_30, kc_32, kc_37, kc_40, kc_41, kc_42, kc_43, kc_45, kc_48, kc_56, kc_57, kc_59, kc_60, kc_61, kc_64, kc_73, kc_78, kc_91, kc_95, kc_96, kc_97, kc_98, kc_99, kc_100, kc_112, kc_122, kc_125, kc_126, kc_150, kc_162, kc_163, kc_168, kc_186, kc_190, kc_200, kc_250, kc_255, kc_355, kc_356, kc_404, kc_405, kc_429, kc_573, kc_999, kc_1000, kc_1002, kc_1100, kc_1891, kc_2200, kc_4719, kc_4869, kc_4881, kc_5148, kc_9999, kn_9999, kc_10000, kc_12345, kc_19741, kc_25433, kc_65536, kc_320403, kc_628412, kc_629093, kc_660401, kc_679843, kc_918640, kc_979410, kc_1178088, kc_6232410, kc_24644941, kc_36238189, kc_38270444, kc_392531318, kc_425693491, kc_1103515245, kc_1342154595, kc_2147483648, kc_42328242873, kc_891704255789, kc_1722105685577, kc_1858726030364, ct_0, ct_1, ct_2, ct_3, ct_4, ct_5, cf_0, cf_1, cf_2, cf_3, cf_4, cf_5, w_ty6, w_ty7, m_sv, m_z0, m_hd, m_g0, m_gs, m_s0, m_ss, m_ap, m_an, forall_const, true_and, and_true, ne_eq, not_true_eq_false, not_false_eq_true, false_implies, true_implies, implies_true, eq_self, reduceCtorEq, Nat.reduceDiv, Nat.reduceMod, Int.reduceToNat, or_true, true_or, or_false, false_or, or_self, m_it, m_if, m_c1, m_01, m_02, m_03, m_04, m_10, m_12, m_13, m_14, m_20, m_21, m_23, m_24, m_30, m_31, m_32, m_34, m_40, m_41, m_42, m_43]
  have j1 : j_iop 0 (a : Int) 1 = ((a + 1 : Nat) : Int) := by
    rw [jadd (by omega) (by omega)]
    omega
  have j2_w : j_iop 0 (a : Int) 2 = ((a + 2 : Nat) : Int) := by
    rw [jadd (by omega) (by omega)]
    omega
  have j3_w : j_iop 0 (a : Int) 3 = ((a + 3 : Nat) : Int) := by
    rw [jadd (by omega) (by omega)]
    omega
  simp only [j1, j2_w, j3_w, Int.toNat_natCast]
  have bd : (0 ≤ (a : Int) ∧ (a : Int) < 250) ∧ (0 ≤ ((a + 1 : Nat) : Int) ∧ ((a + 1 : Nat) : Int) < 250) ∧ (0 ≤ ((a + 2 : Nat) : Int) ∧ ((a + 2 : Nat) : Int) < 250) ∧ (0 ≤ ((a + 3 : Nat) : Int) ∧ ((a + 3 : Nat) : Int) < 250) := by omega
  obtain ⟨bd0, bd1, bd2, bd3⟩ := bd
  have inb_w : InI b := ⟨by omega, by omega⟩
  obtain ⟨p1_w, l1⟩ := lw_PK hp (lo_w := a) (hi_w := a + 4) (i := a) (v := b) (by omega) (by omega) (by omega) inb_w
  obtain ⟨p2_w, l2⟩ := lw_PK p1_w (lo_w := a) (hi_w := a + 4) (i := a + 1) (v := 0) (by omega) (by omega) (by omega) in_0
  obtain ⟨p3_w, l3⟩ := lw_PK p2_w (lo_w := a) (hi_w := a + 4) (i := a + 2) (v := 0) (by omega) (by omega) (by omega) in_0
  obtain ⟨p4_w, l4⟩ := lw_PK p3_w (lo_w := a) (hi_w := a + 4) (i := a + 3) (v := 0) (by omega) (by omega) (by omega) in_0
  have l0 := l1.tr (l2.tr (l3.tr l4))
  have cb : j_up (j_up (j_up (j_up h 191 a b) 191 (a + 1) 0) 191 (a + 2) 0) 191 (a + 3) 0 191 a = b := by
    rw [up_ne (fun z => by have := z.2; omega), up_ne (fun z => by have := z.2; omega), up_ne (fun z => by have := z.2; omega), up_eq]
  generalize j_up (j_up (j_up (j_up h 191 a b) 191 (a + 1) 0) 191 (a + 2) 0) 191 (a + 3) 0 = H at p4_w l0 cb ⊢
  refine ⟨bd0, bd1, bd2, bd3, fun hb_w => ?_, fun hb_w => ⟨fun hb1 => ?_, fun hb1 => ⟨fun hb2 => ?_, fun hb2 => ⟨rfl, p4_w, l0, fun _ => ?_⟩⟩⟩⟩
  · obtain ⟨v, x1_w, iv0, iv1, iv2⟩ := c228 H [182] p4_w.1 ⟨rfl, trivial⟩ rfl
    obtain ⟨u, h2, x2_w, a2, iu, ok2, -⟩ := c205 H 8 v p4_w (by decide) iv1 (by omega)
    obtain ⟨q1_w, m1_w⟩ := lw_PK (p4_w.pa a2) (lo_w := a) (hi_w := a + 4) (i := a + 1) (v := u) (by omega) (by omega) (by omega) iu
    have t1_w := l0.tr (a2.pl.tr m1_w)
    have c1_w : j_up h2 191 (a + 1) u 191 a = b := by rw [up_ne (fun z => by have := z.2; omega), a2.ob (by decide), cb]
    have c2 : j_up h2 191 (a + 1) u 191 (a + 1) = u := up_eq
    have e8 : j_up h2 191 (a + 1) u 182 8 = h2 182 8 := up_ne (fun z => absurd z.1 (by decide))
    refine ⟨[v], H, x1_w, [u], h2, x2_w, bd1, ?_⟩
    rw [show j_hd [u] = u from rfl]
    generalize j_up h2 191 (a + 1) u = H1_w at q1_w m1_w t1_w c1_w c2 e8 ⊢
    refine ⟨fun z => ⟨bd2, ?_⟩, fun z => ?_⟩
    · have ez : j_up H1_w 191 (a + 2) 0 182 8 = H1_w 182 8 := up_ne (fun z => absurd z.1 (by decide))
      obtain ⟨q2_w, m2_w⟩ := lw_PK q1_w (lo_w := a) (hi_w := a + 4) (i := a + 2) (v := 0) (by omega) (by omega) (by omega) in_0
      obtain ⟨q3_w, m3_w⟩ := lw_PK q2_w (lo_w := a) (hi_w := a + 4) (i := a + 3) (v := 0) (by omega) (by omega) (by omega) in_0
      refine ⟨fun _ => ⟨bd3, rfl, q3_w, t1_w.tr (m2_w.tr m3_w), fun y => ?_⟩, fun y => by omega⟩
      rw [up_ne (fun z => absurd z.1 (by decide)), ez] at y
      omega
    · have z1 : h2 182 8 = 0 := by
        have := q1_w.2.1.1
        omega
      obtain ⟨u0, u1, -⟩ := ok2 z1
      have mP := q_nM p4_w.1
      obtain ⟨w, y1, iw0, iw1, iw2⟩ := c233 H1_w [182, u] q1_w.1 ⟨rfl, ⟨u0, by omega, by omega⟩, trivial⟩ rfl
      obtain ⟨t, h3, x3, a3, it, ok3, -⟩ := c200 H1_w 0 w q1_w in_0 iw2
      obtain ⟨q2_w, m2_w⟩ := lw_PK (q1_w.pa a3) (lo_w := a) (hi_w := a + 4) (i := a + 2) (v := t) (by omega) (by omega) (by omega) it
      have t2_w := t1_w.tr (a3.pl.tr m2_w)
      have d1_w : j_up h3 191 (a + 2) t 191 a = b := by rw [up_ne (fun z => by have := z.2; omega), a3.ob (by decide), c1_w]
      have d2_w : j_up h3 191 (a + 2) t 191 (a + 1) = u := by rw [up_ne (fun z => by have := z.2; omega), a3.ob (by decide), c2]
      have d3_w : j_up h3 191 (a + 2) t 191 (a + 2) = t := up_eq
      have f8_w : j_up h3 191 (a + 2) t 182 8 = h3 182 8 := up_ne (fun z => absurd z.1 (by decide))
      refine ⟨[w], H1_w, y1, [t], h3, x3, bd2, ?_⟩
      rw [show j_hd [t] = t from rfl]
      generalize j_up h3 191 (a + 2) t = H2_w at q2_w m2_w t2_w d1_w d2_w d3_w f8_w ⊢
      refine ⟨fun z => ⟨bd3, ?_⟩, fun z => ?_⟩
      · obtain ⟨q3_w, m3_w⟩ := lw_PK q2_w (lo_w := a) (hi_w := a + 4) (i := a + 3) (v := 0) (by omega) (by omega) (by omega) in_0
        refine ⟨rfl, q3_w, t2_w.tr m3_w, fun y => ?_⟩
        rw [up_ne (fun z => absurd z.1 (by decide))] at y
        omega
      · have z2 : h3 182 8 = 0 := by
          have := q2_w.2.1.1
          omega
        obtain ⟨t0_w, tw, -⟩ := ok3 z2
        obtain ⟨s, y2, is0, is1, is2⟩ := c234 H2_w [182, u] q2_w.1 ⟨rfl, ⟨u0, by omega, by omega⟩, trivial⟩ rfl
        obtain ⟨o, h4, x4_w, a4, io, ok4, -⟩ := c200 H2_w 0 s q2_w in_0 is2
        obtain ⟨q3_w, m3_w⟩ := lw_PK (q2_w.pa a4) (lo_w := a) (hi_w := a + 4) (i := a + 3) (v := o) (by omega) (by omega) (by omega) io
        refine ⟨[s], H2_w, y2, [o], h4, x4_w, bd3, rfl, q3_w, t2_w.tr (a4.pl.tr m3_w), fun y => ?_⟩
        rw [show j_hd [o] = o from rfl] at y ⊢
        rw [up_ne (fun z => absurd z.1 (by decide))] at y
        obtain ⟨o0_w, o1, -⟩ := ok4 y
        rw [up_ne (fun z => by have := z.2; omega), up_ne (fun z => by have := z.2; omega), up_ne (fun z => by have := z.2; omega), up_eq, a4.ob (by decide), d1_w, d2_w, d3_w]
        exact ⟨fun _ => ⟨u0, by omega, t0_w, by omega, o0_w, by omega⟩, fun z => by omega, fun z => by omega⟩
  · obtain ⟨v, x1_w, iv0, iv1, iv2⟩ := c228 H [182] p4_w.1 ⟨rfl, trivial⟩ rfl
    obtain ⟨u, h2, x2_w, a2, iu, ok2, -⟩ := c205 H 8 v p4_w (by decide) iv1 (by omega)
    obtain ⟨q1_w, m1_w⟩ := lw_PK (p4_w.pa a2) (lo_w := a) (hi_w := a + 4) (i := a + 1) (v := u) (by omega) (by omega) (by omega) iu
    have t1_w := l0.tr (a2.pl.tr m1_w)
    have c1_w : j_up h2 191 (a + 1) u 191 a = b := by rw [up_ne (fun z => by have := z.2; omega), a2.ob (by decide), cb]
    have c2 : j_up h2 191 (a + 1) u 191 (a + 1) = u := up_eq
    have e8 : j_up h2 191 (a + 1) u 182 8 = h2 182 8 := up_ne (fun z => absurd z.1 (by decide))
    refine ⟨[v], H, x1_w, [u], h2, x2_w, bd1, ?_⟩
    rw [show j_hd [u] = u from rfl]
    generalize j_up h2 191 (a + 1) u = H1_w at q1_w m1_w t1_w c1_w c2 e8 ⊢
    obtain ⟨w, y1, iw0, iw1, iw2⟩ := c227 H1_w [182] q1_w.1 ⟨rfl, trivial⟩ rfl
    obtain ⟨t, h3, x3, a3, it, ok3, -⟩ := c205 H1_w 4 w q1_w (by decide) iw0 (by omega)
    obtain ⟨q2_w, m2_w⟩ := lw_PK (q1_w.pa a3) (lo_w := a) (hi_w := a + 4) (i := a + 2) (v := t) (by omega) (by omega) (by omega) it
    have t2_w := t1_w.tr (a3.pl.tr m2_w)
    have d1_w : j_up h3 191 (a + 2) t 191 a = b := by rw [up_ne (fun z => by have := z.2; omega), a3.ob (by decide), c1_w]
    have d2_w : j_up h3 191 (a + 2) t 191 (a + 1) = u := by rw [up_ne (fun z => by have := z.2; omega), a3.ob (by decide), c2]
    have d3_w : j_up h3 191 (a + 2) t 191 (a + 2) = t := up_eq
    have f8_w : j_up h3 191 (a + 2) t 182 8 = h3 182 8 := up_ne (fun z => absurd z.1 (by decide))
    refine ⟨[w], H1_w, y1, [t], h3, x3, bd2, ?_⟩
    rw [show j_hd [t] = t from rfl]
    generalize j_up h3 191 (a + 2) t = H2_w at q2_w m2_w t2_w d1_w d2_w d3_w f8_w ⊢
    obtain ⟨s, y2, is0, is1, is2⟩ := c225 H2_w [182] q2_w.1 ⟨rfl, trivial⟩ rfl
    have js : j_iop 1 s 1 = s - 1 := jsub (by omega) (by omega)
    obtain ⟨o, h4, x4_w, a4, io, ok4, -⟩ := c200 H2_w 0 (s - 1) q2_w in_0 ⟨by omega, by omega⟩
    obtain ⟨q3_w, m3_w⟩ := lw_PK (q2_w.pa a4) (lo_w := a) (hi_w := a + 4) (i := a + 3) (v := o) (by omega) (by omega) (by omega) io
    refine ⟨[s], H2_w, y2, [o], h4, by rw [show j_hd [s] = s from rfl, js]; exact x4_w, bd3, rfl, q3_w, t2_w.tr (a4.pl.tr m3_w), fun y => ?_⟩
    rw [show j_hd [o] = o from rfl] at y ⊢
    rw [up_ne (fun z => absurd z.1 (by decide))] at y
    have y3 := pa_0 a4 y
    rw [f8_w] at y3
    have y4 := pa_0 a3 y3
    rw [e8] at y4
    obtain ⟨o0_w, o1, -⟩ := ok4 y
    obtain ⟨t0_w, tw, -⟩ := ok3 y3
    obtain ⟨u0, u1, -⟩ := ok2 y4
    have mP := q_nM p4_w.1
    rw [up_ne (fun z => by have := z.2; omega), up_ne (fun z => by have := z.2; omega), up_ne (fun z => by have := z.2; omega), up_eq, a4.ob (by decide), d1_w, d2_w, d3_w]
    exact ⟨fun z => by omega, fun _ => ⟨u0, by omega, t0_w, by omega, o0_w, by omega⟩, fun z => by omega⟩
  · obtain ⟨v, x1_w, iv0, iv1, iv2⟩ := c225 H [182] p4_w.1 ⟨rfl, trivial⟩ rfl
    have js : j_iop 1 v 1 = v - 1 := jsub (by omega) (by omega)
    obtain ⟨u, h2, x2_w, a2, iu, ok2, -⟩ := c200 H 0 (v - 1) p4_w in_0 ⟨by omega, by omega⟩
    obtain ⟨q1_w, m1_w⟩ := lw_PK (p4_w.pa a2) (lo_w := a) (hi_w := a + 4) (i := a + 1) (v := u) (by omega) (by omega) (by omega) iu
    have t1_w := l0.tr (a2.pl.tr m1_w)
    have c1_w : j_up h2 191 (a + 1) u 191 a = b := by rw [up_ne (fun z => by have := z.2; omega), a2.ob (by decide), cb]
    have c2 : j_up h2 191 (a + 1) u 191 (a + 1) = u := up_eq
    have e8 : j_up h2 191 (a + 1) u 182 8 = h2 182 8 := up_ne (fun z => absurd z.1 (by decide))
    refine ⟨[v], H, x1_w, [u], h2, by rw [show j_hd [v] = v from rfl, js]; exact x2_w, bd1, ?_⟩
    rw [show j_hd [u] = u from rfl]
    generalize j_up h2 191 (a + 1) u = H1_w at q1_w m1_w t1_w c1_w c2 e8 ⊢
    obtain ⟨o, h4, x4_w, a4, io, ok4, -⟩ := c200 H1_w 0 9999 q1_w in_0 ⟨by decide, by decide⟩
    obtain ⟨q3_w, m3_w⟩ := lw_PK (q1_w.pa a4) (lo_w := a) (hi_w := a + 4) (i := a + 2) (v := o) (by omega) (by omega) (by omega) io
    refine ⟨[o], h4, x4_w, bd2, rfl, q3_w, t1_w.tr (a4.pl.tr m3_w), fun y => ?_⟩
    rw [show j_hd [o] = o from rfl] at y ⊢
    rw [up_ne (fun z => absurd z.1 (by decide))] at y
    have y3 := pa_0 a4 y
    rw [e8] at y3
    obtain ⟨o0_w, o1, -⟩ := ok4 y
    obtain ⟨u0, u1, -⟩ := ok2 y3
    rw [up_ne (fun z => by have := z.2; omega), up_ne (fun z => by have := z.2; omega), up_eq, a4.ob (by decide), c1_w, c2]
    exact ⟨fun z => by omega, fun z => by omega, fun _ => ⟨u0, by omega, o0_w, by omega⟩⟩
  · rw [cb]
    exact ⟨fun z => absurd z hb_w, fun z => absurd z hb1, fun z => absurd z hb2⟩
end PARG
