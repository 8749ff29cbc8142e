/-! ===== the reference's parser: one to twelve_w numbers_w ===== -/
def RowOK (P : Int × Int) (h : XH) (a m : Int) : Prop := 95 ≤ a ∧ a ≤ 178 ∧ 0 ≤ m ∧ m ≤ 9999 ∧ (∀ (i : Nat) (v : Int), a ≤ (i : Int) → (i : Int) < a + 12 → 0 ≤ v → v ≤ m → ∀ r ∈ (r_A 188).2.2, r.1 ≤ i → i < r.2.1 → IV P r.2.2 v) ∧ (∀ i : Nat, a ≤ (i : Int) → (i : Int) < a + 12 → i ≠ 96 ∧ i ≠ 98 ∧ (∀ k : Nat, i ≠ 169 + 3 * k ∨ h 188 98 ≤ (k : Int)) ∧ ∀ k : Nat, i ≠ 113 + 14 * k ∨ h 188 96 ≤ (k : Int))
def WR12 (a : Int) (i : Nat) : Prop := a ≤ (i : Int) ∧ (i : Int) < a + 12
def G211 (P : Int × Int) (N : Nat) (g : Nat × Nat) (F : XP) : Prop := ∀ (h : XH) (a m : Int), PK P N h → h 182 8 = 0 → RowOK P h a m → ∃ v h', F 211 [182, a, m] ((a_g3, g), h) = some (1, [v], ((a_g3, g), h')) ∧ PK P N h' ∧ PF N (WR12 a) h h' ∧ InI v ∧ (h' 182 8 = 0 → 1 ≤ v ∧ v ≤ 12)
section PARB
variable {P : Int × Int} {N : Nat} {g : Nat × Nat} {xs : Nat → Int} {L K n : Nat} {ck : Nat → List Nat} {cW : Nat → Nat → Int} {h h' h1 h2 : XH} {F : XP}
theorem pf_same {W : Nat → Prop} {o k : Nat} (a : PF N W h h') (h1 : o ≠ 182) (h2 : o ≠ 188) (h3 : o ≠ 190) : h' o k = h o k := a.1 o k (fun z => absurd z h1) (fun z => absurd z h2) (fun z => absurd z h3)
theorem pf_g {W : Nat → Prop} {k : Nat} (a : PF N W h h') (h1 : ¬W k) : h' 188 k = h 188 k := a.1 188 k (fun z => absurd z (by decide)) (fun _ => h1) (fun z => absurd z (by decide))
/-- a cell_w of a row is_w drafted -/
theorem rw_QK (hp : PK P N h) {a m v : Int} {i : Nat} (hr : RowOK P h a m) (hi_w : WR12 a i) (v0_w : 0 ≤ v) (v1_w : v ≤ m) : PK P N (j_up h 188 i v) ∧ PF N (WR12 a) h (j_up h 188 i v) := by
  obtain ⟨r1_w, r2, r3, r4, r5_w, r6⟩ := hr
  obtain ⟨s1_w, s2_w, s3_w, s4_w⟩ := r6 i hi_w.1 hi_w.2
  have hi1 := hi_w.1
  have q1_w : QK P (r_T 0) (RJ P) (j_up h 188 i v) := dw_QK hp.1 (ht_up hp.1.1 (by decide) ⟨by omega, by omega⟩) (Or.inl ⟨rfl, by omega⟩) (r5_w i v hi_w.1 hi_w.2 v0_w v1_w)
  have e1_w : PF N (WR12 a) h (j_up h 188 i v) := ⟨fun o k e e2_w e3_w => up_ne (fun z => e2_w z.1 (by rw [z.2]; exact hi_w)), by rw [up_ne (fun z => absurd z.1 (by decide))]; exact hp.2.1.1, by rw [up_ne (fun z => absurd z.1 (by decide))]; exact ht_fld hp.1 rfl, fun _ => up_ne (fun z => absurd z.1 (by decide)), by rw [up_ne (fun z => absurd z.1 (by decide))]; exact Int.le_refl _, by rw [up_ne (fun z => absurd z.1 (by decide))]; exact hp.2.1.2.2.1⟩
  exact ⟨⟨q1_w, e1_w.pt hp.2.1, DG.up hp.1 hp.2.2 (up_ne (fun z => s1_w z.2.symm)) (up_ne (fun z => s2_w z.2.symm)) (fun k hk => up_ne (fun z => by have := s3_w k; have := z.2; omega)) (fun k hk => up_ne (fun z => by have := s4_w k; have := z.2; omega))⟩, e1_w⟩
theorem RowOK.pf {a m : Int} (hr : RowOK P h a m) (e : PF N (WR12 a) h h') : RowOK P h' a m := by
  obtain ⟨r1_w, r2, r3, r4, r5_w, r6⟩ := hr
  refine ⟨r1_w, r2, r3, r4, r5_w, fun i h1 h2 => ?_⟩
  have e96 : h' 188 96 = h 188 96 := pf_g e (fun z => absurd rfl (r6 96 z.1 z.2).1)
  have e98_w : h' 188 98 = h 188 98 := pf_g e (fun z => absurd rfl (r6 98 z.1 z.2).2.1)
  rw [e96, e98_w]
  exact r6 i h1 h2
def B211 (P : Int × Int) (N : Nat) (h : XH) (a : Int) (r : List Int) (h' : XH) : Prop := ∃ v, r = [v] ∧ PK P N h' ∧ PF N (WR12 a) h h' ∧ InI v ∧ (h' 182 8 = 0 → 1 ≤ v ∧ v ≤ 12)
theorem g_211 (hK_w : 4294967300 ≤ K) (c191 : G191 P N g (evF xs L ck K cW g_M n)) (c200 : G200 P N g (evF xs L ck K cW g_M n)) : G211 P N g (evF xs L ck K cW g_M (n + 1)) := fun h a m hp f0_w hr => by
  suffices hs : ∃ r h', evF xs L ck K cW g_M (n + 1) 211 [182, a, m] ((a_g3, g), h) = some (1, r, ((a_g3, g), h')) ∧ B211 P N h a r h' by
    obtain ⟨r, h', e1_w, v, rfl, e2_w⟩ := hs
    exact ⟨v, h', e1_w, e2_w⟩
  refine tr_of gm_211 ?_
  show wS _ _ K bb_211 [182, a, m, 0, 0] h _
  generalize evF xs L ck K cW g_M n = F at c191 c200 ⊢
  unfold bb_211
  simp only [wf_4, wf_40, wf_5, wf_50, wf_6, wl_1, wt_1, wu_1, wa_1, wl_4, wt_4, wu_4, wa_4, wl_5, wt_5, wu_5, wa_5, wl_6, wt_6, wu_6, wa_6, wl_9, wt_9, wu_9, wa_9, wl_10, wt_10, wu_10, wa_10, wl_11, wt_11, wu_11, wa_11, wl_13, wt_13, wu_13, wa_13, wl_14, wt_14, wu_14, wa_14, wl_15, wt_15, wu_15, wa_15, wl_16, wt_16, wu_16, wa_16, wl_17, wt_17, wu_17, wa_17, wl_20, wt_20, wu_20, wa_20, wl_21, wt_21, wu_21, wa_21, wl_22, wt_22, wu_22, wa_22, wl_23, wt_23, wu_23, wa_23, wl_24, wt_24, wu_24, wa_24, wl_26, wt_26, wu_26, wa_26, wl_27, wt_27, wu_27, wa_27, wl_28, wt_28, wu_28, wa_28, we_1, we_3, we_10, we_14, we_15, we_16, we_17, we_18, we_20, we_21, we_22, we_24, we_25, we_26, we_27, we_28, we_30, we_31, we_32, wc_20, wc_21, wc_22, wc_24, wc_25, wc_26, wc_27, wc_3, wc_4, wc_7, wc_28, wc_32, ws_1, ws_2, ws_3, ws_4, ws_9, ws_10, ws_11, ws_14, ws_15, ws_16, ws_27, ws_17, ws_20, ws_28, kc_0, kc_1, kn_1, kc_2, kn_2, kc_3, kc_4, kc_5, kc_6, kc_7, kc_8, kc_9, kc_10, kc_12, kc_13, kc_14, kc_16, kc_17, kc_18, kc_19, kc_20, kc_21, kc_22, kc_24, kc_28, kc_30, kc_32, kc_37, kc_40, kc_41, kc_42, kc_43, kc_45, kc_48, kc_56, kc_57, kc_59, kc_60, kc_61, kc_64, kc_73, kc_78, kc_91, kc_95, kc_96, kc_97, kc_98, kc_99, kc_100, kc_112, kc_122, kc_125, kc_126, kc_150, kc_162, kc_163, kc_168, kc_186, kc_190, kc_200, kc_250, kc_255, kc_355, kc_356, kc_404, kc_405, kc_429, kc_573, kc_999, kc_1000, kc_1002, kc_1100, kc_1891, kc_2200, kc_4719, kc_4869, kc_4881, kc_5148, kc_9999, kn_9999, kc_10000, kc_12345, kc_19741, kc_25433, kc_65536, kc_320403, kc_628412, kc_629093, kc_660401, kc_679843, kc_918640, kc_979410, kc_1178088, kc_6232410, kc_24644941, kc_36238189, kc_38270444, kc_392531318, kc_425693491, kc_1103515245, kc_1342154595, kc_2147483648, kc_42328242873, kc_891704255789, kc_1722105685577, kc_1858726030364, ct_0, ct_1, ct_2, ct_3, ct_4, ct_5, cf_0, cf_1, cf_2, cf_3, cf_4, cf_5, w_ty6, w_ty7, m_sv, m_z0, m_hd, m_g0, m_gs, m_s0, m_ss, m_ap, m_an, forall_const, true_and, and_true, ne_eq, not_true_eq_false, not_false_eq_true, false_implies, true_implies, implies_true, eq_self, reduceCtorEq, Nat.reduceDiv, Nat.reduceMod, Int.reduceToNat, or_true, true_or, or_false, false_or, or_self, m_it, m_if, m_c1, m_01, m_02, m_03, m_04, m_10, m_12, m_13, m_14, m_20, m_21, m_23, m_24, m_30, m_31, m_32, m_34, m_40, m_41, m_42, m_43]
  refine w_dp (fun en h' => (∃ k w : Int, en = [182, a, m, k, w] ∧ 0 ≤ k ∧ k ≤ 12) ∧ PK P N h' ∧ h' 182 8 = 0 ∧ PF N (WR12 a) h h') (fun _ h' => ((N : Int) - h' 182 7).toNat) ⟨⟨0, 0, rfl, by decide, by decide⟩, hp, f0_w, (PA.rf hp).pf⟩ ?_
  rintro en h1 ⟨⟨k, w, rfl, k0_w, k1_w⟩, hp1, f1_w, e1_w⟩
  refine ⟨?_, ?_⟩
  · show ((N : Int) - h1 182 7).toNat < K
    have n1_w := hp.2.1.2.2.2.1
    have n2_w := hp1.2.1.2.1
    omega
  have hr1 := hr.pf e1_w
  simp only [wf_4, wf_40, wf_5, wf_50, wf_6, wl_1, wt_1, wu_1, wa_1, wl_4, wt_4, wu_4, wa_4, wl_5, wt_5, wu_5, wa_5, wl_6, wt_6, wu_6, wa_6, wl_9, wt_9, wu_9, wa_9, wl_10, wt_10, wu_10, wa_10, wl_11, wt_11, wu_11, wa_11, wl_13, wt_13, wu_13, wa_13, wl_14, wt_14, wu_14, wa_14, wl_15, wt_15, wu_15, wa_15, wl_16, wt_16, wu_16, wa_16, wl_17, wt_17, wu_17, wa_17, wl_20, wt_20, wu_20, wa_20, wl_21, wt_21, wu_21, wa_21, wl_22, wt_22, wu_22, wa_22, wl_23, wt_23, wu_23, wa_23, wl_24, wt_24, wu_24, wa_24, wl_26, wt_26, wu_26, wa_26, wl_27, wt_27, wu_27, wa_27, wl_28, wt_28, wu_28, wa_28, we_1, we_3, we_10, we_14, we_15, we_16, we_17, we_18, we_20, we_21, we_22, we_24, we_25, we_26, we_27, we_28, we_30, we_31, we_32, wc_20, wc_21, wc_22, wc_24, wc_25, wc_26, wc_27, wc_3, wc_4, wc_7, wc_28, wc_32, ws_1, ws_2, ws_3, ws_4, ws_9, ws_10, ws_11, ws_14, ws_15, ws_16, ws_27, ws_17, ws_20, ws_28, kc_0, kc_1, kn_1, kc_2, kn_2, kc_3, kc_4, kc_5, kc_6, kc_7, kc_8, kc_9, kc_10, kc_12, kc_13, kc_14, kc_16, kc_17, kc_18, kc_19, kc_20, kc_21, kc_22, kc_24, kc_28, kc_30, kc_32, kc_37, kc_40, kc_41, kc_42, kc_43, kc_45, kc_48, kc_56, kc_57, kc_59, kc_60, kc_61, kc_64, kc_73, kc_78, kc_91, kc_95, kc_96, kc_97, kc_98, kc_99, kc_100, kc_112, kc_122, kc_125, kc_126, kc_150, kc_162, kc_163, kc_168, kc_186, kc_190, kc_200, kc_250, kc_255, kc_355, kc_356, kc_404, kc_405, kc_429, kc_573, kc_999, kc_1000, kc_1002, kc_1100, kc_1891, kc_2200, kc_4719, kc_4869, kc_4881, kc_5148, kc_9999, kn_9999, kc_10000, kc_12345, kc_19741, kc_25433, kc_65536, kc_320403, kc_628412, kc_629093, kc_660401, kc_679843, kc_918640, kc_979410, kc_1178088, kc_6232410, kc_24644941, kc_36238189, kc_38270444, kc_392531318, kc_425693491, kc_1103515245, kc_1342154595, kc_2147483648, kc_42328242873, kc_891704255789, kc_1722105685577, kc_1858726030364, ct_0, ct_1, ct_2, ct_3, ct_4, ct_5, cf_0, cf_1, cf_2, cf_3, cf_4, cf_5, w_ty6, w_ty7, m_sv, m_z0, m_hd, m_g0, m_gs, m_s0, m_ss, m_ap, m_an, forall_const, true_and, and_true, ne_eq, not_true_eq_false, not_false_eq_true, false_implies, true_implies, implies_true, eq_self, reduceCtorEq, Nat.reduceDiv, Nat.reduceMod, Int.reduceToNat, or_true, true_or, or_false, false_or, or_self, m_it, m_if, m_c1, m_01, m_02, m_03, m_04, m_10, m_12, m_13, m_14, m_20, m_21, m_23, m_24, m_30, m_31, m_32, m_34, m_40, m_41, m_42, m_43]
  obtain ⟨r1_w, r2, r3, r4, -, -⟩ := id hr
  have ink : InI k := ⟨by omega, by omega⟩
  obtain ⟨v, h2, x1_w, pa, iv_w, ok, ko⟩ := c200 h1 0 m hp1 ⟨by decide, by decide⟩ ⟨by omega, by omega⟩
  have p2_w : PK P N h2 := hp1.pa pa
  refine ⟨[v], h2, x1_w, fun z0 => ?_, fun z => ⟨fun y => absurd y z, fun _ => ⟨fun y => absurd y z, fun _ => ⟨k, rfl, p2_w, e1_w.tr pa.pf, ink, fun y => absurd y z⟩⟩⟩⟩
  obtain ⟨v0_w, v1_w, e2_w, -, hs, -⟩ := ok z0
  refine ⟨fun kk => ?_, fun kk => ⟨fun _ => ?_, fun y => absurd z0 y⟩⟩
  · have back : j_up h2 182 7 (j_iop 1 (h2 182 7) 1) = h1 := by
      rw [e2_w, show atp h1 182 7 = h1 182 7 + 1 from up_eq, jsub (by have := hp1.2.1.2.1; have := hp1.2.1.2.2.1; have := hp1.2.1.2.2.2.1; omega) (by have := hp1.2.1.2.1; have := hp1.2.1.2.2.1; have := hp1.2.1.2.2.2.1; omega), show h1 182 7 + 1 - 1 = h1 182 7 by omega]
      refine funext fun o => funext fun i => ?_
      by_cases e : o = 182 ∧ i = 7
      · obtain ⟨rfl, rfl⟩ := e
        exact up_eq
      · rw [up_ne e]
        exact up_ne e
    rw [back]
    obtain ⟨h3, y1, y2, y3, y4, -⟩ := c191 h1 5 hp1 (by decide) (by decide)
    exact ⟨[], h3, y1, fun y => absurd y y4, fun _ => ⟨fun y => absurd y y4, fun _ => ⟨k, rfl, hp1.pa y2, e1_w.tr y2.pf, ink, fun y => absurd y y4⟩⟩⟩
  · rw [jadd (x := a) (y := k) (by omega) (by omega), j32_in (v := k + 1) ⟨by omega, by omega⟩]
    obtain ⟨q1_w, q2_w⟩ := rw_QK p2_w (hr1.pf pa.pf) (i := (a + k).toNat) ⟨by omega, by omega⟩ v0_w v1_w
    have w7_w : j_up h2 188 (a + k).toNat v 182 7 = h1 182 7 + 1 := by
      rw [up_ne (fun z => absurd z.1 (by decide)), e2_w]
      exact up_eq
    have w8 : j_up h2 188 (a + k).toNat v 182 8 = 0 := by
      rw [up_ne (fun z => absurd z.1 (by decide))]
      exact z0
    have n0_w := q1_w.2.1.2.2.1
    have n1_w := q1_w.2.1.2.2.2.1
    have n2_w := hp1.2.1.2.1
    rw [w7_w] at n0_w
    refine ⟨⟨by omega, by omega⟩, fun _ => ⟨⟨?_, ?_⟩, fun _ => ⟨⟨⟨k + 1, v, rfl, by omega, by omega⟩, q1_w, w8, e1_w.tr (pa.pf.tr q2_w)⟩, ?_⟩, fun _ => ⟨k + 1, rfl, q1_w, e1_w.tr (pa.pf.tr q2_w), ⟨by omega, by omega⟩, fun _ => ⟨by omega, by omega⟩⟩⟩, fun y => absurd w8 y⟩
    · show 0 ≤ j_up h2 188 (a + k).toNat v 182 7
      rw [w7_w]
      omega
    · show j_up h2 188 (a + k).toNat v 182 7 < 1002
      rw [w7_w]
      omega
    · show ((N : Int) - j_up h2 188 (a + k).toNat v 182 7).toNat < ((N : Int) - h1 182 7).toNat
      rw [w7_w]
      omega
end PARB
