section
/-! ===== the reference's parser: its first steps_w ===== -/
def atp (h : XH) : XH := j_up h 182 7 (h 182 7 + 1)
def G194 (P : Int × Int) (N : Nat) (g : Nat × Nat) (F : XP) : Prop := ∀ (h : XH) (c : Int), PK P N h → InI c → ∃ h', F 194 [182, c] ((a_g3, g), h) = some (1, [], ((a_g3, g), h')) ∧ PA N h h' ∧ (tkS h c → h' = atp h) ∧ (¬tkS h c → h' 182 7 = h 182 7 ∧ h' 182 8 ≠ 0 ∧ (h 182 8 = 0 → h' 182 8 = 1 + 16 * h 185 (h 182 7).toNat))
def G195 (P : Int × Int) (N : Nat) (g : Nat × Nat) (F : XP) : Prop := ∀ (h : XH) (c : Int), PK P N h → InI c → ∃ v h', F 195 [182, c] ((a_g3, g), h) = some (1, [v], ((a_g3, g), h')) ∧ (v = 0 ∨ v = 1) ∧ (v ≠ 0 → tkS h c ∧ h' = atp h) ∧ (v = 0 → ¬tkS h c ∧ h' = h)
def G196 (P : Int × Int) (N : Nat) (g : Nat × Nat) (F : XP) : Prop := ∀ (h : XH) (w : Int), PK P N h → 0 ≤ w → w < 24 → ∃ v h', F 196 [182, w] ((a_g3, g), h) = some (1, [v], ((a_g3, g), h')) ∧ (v = 0 ∨ v = 1) ∧ (v ≠ 0 → tkW h w ∧ h' = atp h) ∧ (v = 0 → ¬tkW h w ∧ h' = h)
def G197 (P : Int × Int) (N : Nat) (g : Nat × Nat) (F : XP) : Prop := ∀ (h : XH) (w : Int), PK P N h → 0 ≤ w → w < 24 → ∃ h', F 197 [182, w] ((a_g3, g), h) = some (1, [], ((a_g3, g), h')) ∧ PA N h h' ∧ (tkW h w → h' = atp h) ∧ (¬tkW h w → h' 182 7 = h 182 7 ∧ h' 182 8 ≠ 0 ∧ (h 182 8 = 0 → h' 182 8 = 1 + 16 * h 185 (h 182 7).toNat))
def G200 (P : Int × Int) (N : Nat) (g : Nat × Nat) (F : XP) : Prop := ∀ (h : XH) (l u : Int), PK P N h → InI l → InI u → ∃ v h', F 200 [182, l, u] ((a_g3, g), h) = some (1, [v], ((a_g3, g), h')) ∧ PA N h h' ∧ InI v ∧ (h' 182 8 = 0 → l ≤ v ∧ v ≤ u ∧ h' = atp h ∧ h 182 8 = 0 ∧ h 184 (h 182 7).toNat = 2 ∧ v = h 186 (h 182 7).toNat) ∧ (h' 182 8 ≠ 0 → v = 0 ∧ h' 182 7 = h 182 7)
def G201 (P : Int × Int) (N : Nat) (g : Nat × Nat) (F : XP) : Prop := ∀ (h : XH) (a m : Int), PK P N h → 0 ≤ a → 0 ≤ m → a + m ≤ 24 → ∃ v, F 201 [182, a, m] ((a_g3, g), h) = some (1, [v], ((a_g3, g), h)) ∧ -1 ≤ v ∧ v < max m 1 ∧ (0 ≤ v → v < m ∧ tkW h (a + v)) ∧ (v = -1 → ∀ k, 0 ≤ k → k < m → ¬tkW h (a + k))
section PAR3
variable {P : Int × Int} {N : Nat} {g : Nat × Nat} {xs : Nat → Int} {L K n : Nat} {ck : Nat → List Nat} {cW : Nat → Nat → Int} {h : XH}
theorem jat (hp : PK P N h) : j_iop 0 (h 182 7) 1 = h 182 7 + 1 := by
  obtain ⟨q, ⟨p1_w, p2_w, p3_w, p4_w, p5_w, p6_w, p7_w⟩, d⟩ := hp
  exact jadd (by omega) (by omega)
theorem jat0 (hp : PK P N h) : j_iop 0 (h 182 7) 0 = h 182 7 := by
  obtain ⟨q, ⟨p1_w, p2_w, p3_w, p4_w, p5_w, p6_w, p7_w⟩, d⟩ := hp
  rw [jadd (by omega) (by omega)]
  omega
theorem tkS.pa {c : Int} (hp : PK P N h) (ht : tkS h c) : PA N h (atp h) := PA.next hp (by rw [ht.2.1]; decide)
theorem tkW.pa {c : Int} (hp : PK P N h) (ht : tkW h c) : PA N h (atp h) := PA.next hp (by rw [ht.2.1]; decide)
theorem g_194 (c192 : G192 P N g (evF xs L ck K cW g_M n)) (c191 : G191 P N g (evF xs L ck K cW g_M n)) : G194 P N g (evF xs L ck K cW g_M (n + 1)) := fun h c hp hc_w => by
  suffices hs : ∃ r h', evF xs L ck K cW g_M (n + 1) 194 [182, c] ((a_g3, g), h) = some (1, r, ((a_g3, g), h')) ∧ r = [] ∧ PA N h h' ∧ (tkS h c → h' = atp h) ∧ (¬tkS h c → h' 182 7 = h 182 7 ∧ h' 182 8 ≠ 0 ∧ (h 182 8 = 0 → h' 182 8 = 1 + 16 * h 185 (h 182 7).toNat)) by
    obtain ⟨r, h', e1_w, rfl, e2_w⟩ := hs
    exact ⟨h', e1_w, e2_w⟩
  refine tr_of gm_194 (B := fun r h' => r = [] ∧ PA N h h' ∧ (tkS h c → h' = atp h) ∧ (¬tkS h c → h' 182 7 = h 182 7 ∧ h' 182 8 ≠ 0 ∧ (h 182 8 = 0 → h' 182 8 = 1 + 16 * h 185 (h 182 7).toNat))) ?_
  show wS _ _ K bb_194 [182, c] h _
  generalize evF xs L ck K cW g_M n = F at c192 c191 ⊢
  unfold bb_194
  simp only [wf_4, wf_40, wf_5, wf_50, wf_6, wl_1, wt_1, wu_1, wa_1, wl_4, wt_4, wu_4, wa_4, wl_5, wt_5, wu_5, wa_5, wl_6, wt_6, wu_6, wa_6, wl_9, wt_9, wu_9, wa_9, wl_10, wt_10, wu_10, wa_10, wl_11, wt_11, wu_11, wa_11, wl_13, wt_13, wu_13, wa_13, wl_14, wt_14, wu_14, wa_14, wl_15, wt_15, wu_15, wa_15, wl_16, wt_16, wu_16, wa_16, wl_17, wt_17, wu_17, wa_17, wl_20, wt_20, wu_20, wa_20, wl_21, wt_21, wu_21, wa_21, wl_22, wt_22, wu_22, wa_22, wl_23, wt_23, wu_23, wa_23, wl_24, wt_24, wu_24, wa_24, wl_26, wt_26, wu_26, wa_26, wl_27, wt_27, wu_27, wa_27, wl_28, wt_28, wu_28, wa_28, we_1, we_3, we_10, we_14, we_15, we_16, we_17, we_18, we_20, we_21, we_22, we_24, we_25, we_26, we_27, we_28, we_30, we_31, we_32, wc_20, wc_21, wc_22, wc_24, wc_25, wc_26, wc_27, wc_3, wc_4, wc_7, wc_28, wc_32, ws_1, ws_2, ws_3, ws_4, ws_9, ws_10, ws_11, ws_14, ws_15, ws_16, ws_27, ws_17, ws_20, ws_28, kc_0, kc_1, kn_1, kc_2, kn_2, kc_3, kc_4, kc_5, kc_6, kc_7, kc_8, kc_9, kc_10, kc_12, kc_13, kc_14, kc_16, kc_17, kc_18, kc_19, kc_20, kc_21, kc_22, kc_24, kc_28, kc_30, kc_32, kc_37, kc_40, kc_41, kc_42, kc_43, kc_45, kc_48, kc_56, kc_57, kc_59, kc_60, kc_61, kc_64, kc_73, kc_78, kc_91, kc_95, kc_96, kc_97, kc_98, kc_99, kc_100, kc_112, kc_122, kc_125, kc_126, kc_150, kc_162, kc_163, kc_168, kc_186, kc_190, kc_200, kc_250, kc_255, kc_355, kc_356, kc_404, kc_405, kc_429, kc_573, kc_999, kc_1000, kc_1002, kc_1100, kc_1891, kc_2200, kc_4719, kc_4869, kc_4881, kc_5148, kc_9999, kn_9999, kc_10000, kc_12345, kc_19741, kc_25433, kc_65536, kc_320403, kc_628412, kc_629093, kc_660401, kc_679843, kc_918640, kc_979410, kc_1178088, kc_6232410, kc_24644941, kc_36238189, kc_38270444, kc_392531318, kc_425693491, kc_1103515245, kc_1342154595, kc_2147483648, kc_42328242873, kc_891704255789, kc_1722105685577, kc_1858726030364, ct_0, ct_1, ct_2, ct_3, ct_4, ct_5, cf_0, cf_1, cf_2, cf_3, cf_4, cf_5, w_ty6, w_ty7, m_sv, m_z0, m_hd, m_g0, m_gs, m_s0, m_ss, m_ap, m_an, forall_const, true_and, and_true, ne_eq, not_true_eq_false, not_false_eq_true, false_implies, true_implies, implies_true, eq_self, reduceCtorEq, Nat.reduceDiv, Nat.reduceMod, Int.reduceToNat, or_true, true_or, or_false, false_or, or_self, m_it, m_if, m_c1, m_01, m_02, m_03, m_04, m_10, m_12, m_13, m_14, m_20, m_21, m_23, m_24, m_30, m_31, m_32, m_34, m_40, m_41, m_42, m_43]
  obtain ⟨v, e1_w, e2_w, e3_w⟩ := c192 h c hp hc_w
  refine ⟨[v], h, e1_w, fun k => ?_, fun k => ?_⟩
  · have ht := e3_w.mp k
    rw [jat hp]
    exact ⟨tkS.pa hp ht, fun _ => rfl, fun k2 => absurd ht k2⟩
  · obtain ⟨h', f1_w, f2_w, f3_w, f4_w, f5_w⟩ := c191 h 1 hp (by decide) (by decide)
    have hn : ¬tkS h c := fun z => absurd k (e3_w.mpr z)
    exact ⟨[], h', f1_w, f2_w, fun z => absurd z hn, fun _ => ⟨f3_w, f4_w, f5_w⟩⟩
theorem g_195 (c192 : G192 P N g (evF xs L ck K cW g_M n)) : G195 P N g (evF xs L ck K cW g_M (n + 1)) := fun h c hp hc_w => by
  suffices hs : ∃ r h', evF xs L ck K cW g_M (n + 1) 195 [182, c] ((a_g3, g), h) = some (1, r, ((a_g3, g), h')) ∧ ∃ v, r = [v] ∧ (v = 0 ∨ v = 1) ∧ (v ≠ 0 → tkS h c ∧ h' = atp h) ∧ (v = 0 → ¬tkS h c ∧ h' = h) by
    obtain ⟨r, h', e1_w, v, rfl, e2_w⟩ := hs
    exact ⟨v, h', e1_w, e2_w⟩
  refine tr_of gm_195 (B := fun r h' => ∃ v, r = [v] ∧ (v = 0 ∨ v = 1) ∧ (v ≠ 0 → tkS h c ∧ h' = atp h) ∧ (v = 0 → ¬tkS h c ∧ h' = h)) ?_
  show wS _ _ K bb_195 [182, c, 0] h _
  generalize evF xs L ck K cW g_M n = F at c192 ⊢
  unfold bb_195
  simp only [wf_4, wf_40, wf_5, wf_50, wf_6, wl_1, wt_1, wu_1, wa_1, wl_4, wt_4, wu_4, wa_4, wl_5, wt_5, wu_5, wa_5, wl_6, wt_6, wu_6, wa_6, wl_9, wt_9, wu_9, wa_9, wl_10, wt_10, wu_10, wa_10, wl_11, wt_11, wu_11, wa_11, wl_13, wt_13, wu_13, wa_13, wl_14, wt_14, wu_14, wa_14, wl_15, wt_15, wu_15, wa_15, wl_16, wt_16, wu_16, wa_16, wl_17, wt_17, wu_17, wa_17, wl_20, wt_20, wu_20, wa_20, wl_21, wt_21, wu_21, wa_21, wl_22, wt_22, wu_22, wa_22, wl_23, wt_23, wu_23, wa_23, wl_24, wt_24, wu_24, wa_24, wl_26, wt_26, wu_26, wa_26, wl_27, wt_27, wu_27, wa_27, wl_28, wt_28, wu_28, wa_28, we_1, we_3, we_10, we_14, we_15, we_16, we_17, we_18, we_20, we_21, we_22, we_24, we_25, we_26, we_27, we_28, we_30, we_31, we_32, wc_20, wc_21, wc_22, wc_24, wc_25, wc_26, wc_27, wc_3, wc_4, wc_7, wc_28, wc_32, ws_1, ws_2, ws_3, ws_4, ws_9, ws_10, ws_11, ws_14, ws_15, ws_16, ws_27, ws_17, ws_20, ws_28, kc_0, kc_1, kn_1, kc_2, kn_2, kc_3, kc_4, kc_5, kc_6, kc_7, kc_8, kc_9, kc_10, kc_12, kc_13, kc_14, kc_16, kc_17, kc_18, kc_19, kc_20, kc_21, kc_22, kc_24, kc_28, kc_30, kc_32, kc_37, kc_40, kc_41, kc_42, kc_43, kc_45, kc_48, kc_56, kc_57, kc_59, kc_60, kc_61, kc_64, kc_73, kc_78, kc_91, kc_95, kc_96, kc_97, kc_98, kc_99, kc_100, kc_112, kc_122, kc_125, kc_126, kc_150, kc_162, kc_163, kc_168, kc_186, kc_190, kc_200, kc_250, kc_255, kc_355, kc_356, kc_404, kc_405, kc_429, kc_573, kc_999, kc_1000, kc_1002, kc_1100, kc_1891, kc_2200, kc_4719, kc_4869, kc_4881, kc_5148, kc_9999, kn_9999, kc_10000, kc_12345, kc_19741, kc_25433, kc_65536, kc_320403, kc_628412, kc_629093, kc_660401, kc_679843, kc_918640, kc_979410, kc_1178088, kc_6232410, kc_24644941, kc_36238189, kc_38270444, kc_392531318, kc_425693491, kc_1103515245, kc_1342154595, kc_2147483648, kc_42328242873, kc_891704255789, kc_1722105685577, kc_1858726030364, ct_0, ct_1, ct_2, ct_3, ct_4, ct_5, cf_0, cf_1, cf_2, cf_3, cf_4, cf_5, w_ty6, w_ty7, m_sv, m_z0, m_hd, m_g0, m_gs, m_s0, m_ss, m_ap, m_an, forall_const, true_and, and_true, ne_eq, not_true_eq_false, not_false_eq_true, false_implies, true_implies, implies_true, eq_self, reduceCtorEq, Nat.reduceDiv, Nat.reduceMod, Int.reduceToNat, or_true, true_or, or_false, false_or, or_self, m_it, m_if, m_c1, m_01, m_02, m_03, m_04, m_10, m_12, m_13, m_14, m_20, m_21, m_23, m_24, m_30, m_31, m_32, m_34, m_40, m_41, m_42, m_43]
  obtain ⟨v, e1_w, e2_w, e3_w⟩ := c192 h c hp hc_w
  exact ⟨[v], h, e1_w, fun k => ⟨e2_w, v, rfl, e2_w, fun _ => ⟨e3_w.mp k, by rw [jat hp]; rfl⟩, fun k2 => absurd k2 k⟩, fun k => ⟨e2_w, v, rfl, e2_w, fun k2 => absurd k k2, fun _ => ⟨fun z => absurd k (e3_w.mpr z), by rw [jat0 hp, up_self]⟩⟩⟩
theorem g_196 (c193 : G193 P N g (evF xs L ck K cW g_M n)) : G196 P N g (evF xs L ck K cW g_M (n + 1)) := fun h c hp c0 c1_w => by
  suffices hs : ∃ r h', evF xs L ck K cW g_M (n + 1) 196 [182, c] ((a_g3, g), h) = some (1, r, ((a_g3, g), h')) ∧ ∃ v, r = [v] ∧ (v = 0 ∨ v = 1) ∧ (v ≠ 0 → tkW h c ∧ h' = atp h) ∧ (v = 0 → ¬tkW h c ∧ h' = h) by
    obtain ⟨r, h', e1_w, v, rfl, e2_w⟩ := hs
    exact ⟨v, h', e1_w, e2_w⟩
  refine tr_of gm_196 (B := fun r h' => ∃ v, r = [v] ∧ (v = 0 ∨ v = 1) ∧ (v ≠ 0 → tkW h c ∧ h' = atp h) ∧ (v = 0 → ¬tkW h c ∧ h' = h)) ?_
  show wS _ _ K bb_196 [182, c, 0] h _
  generalize evF xs L ck K cW g_M n = F at c193 ⊢
  unfold bb_196
  simp only [wf_4, wf_40, wf_5, wf_50, wf_6, wl_1, wt_1, wu_1, wa_1, wl_4, wt_4, wu_4, wa_4, wl_5, wt_5, wu_5, wa_5, wl_6, wt_6, wu_6, wa_6, wl_9, wt_9, wu_9, wa_9, wl_10, wt_10, wu_10, wa_10, wl_11, wt_11, wu_11, wa_11, wl_13, wt_13, wu_13, wa_13, wl_14, wt_14, wu_14, wa_14, wl_15, wt_15, wu_15, wa_15, wl_16, wt_16, wu_16, wa_16, wl_17, wt_17, wu_17, wa_17, wl_20, wt_20, wu_20, wa_20, wl_21, wt_21, wu_21, wa_21, wl_22, wt_22, wu_22, wa_22, wl_23, wt_23, wu_23, wa_23, wl_24, wt_24, wu_24, wa_24, wl_26, wt_26, wu_26, wa_26, wl_27, wt_27, wu_27, wa_27, wl_28, wt_28, wu_28, wa_28, we_1, we_3, we_10, we_14, we_15, we_16, we_17, we_18, we_20, we_21, we_22, we_24, we_25, we_26, we_27, we_28, we_30, we_31, we_32, wc_20, wc_21, wc_22, wc_24, wc_25, wc_26, wc_27, wc_3, wc_4, wc_7, wc_28, wc_32, ws_1, ws_2, ws_3, ws_4, ws_9, ws_10, ws_11, ws_14, ws_15, ws_16, ws_27, ws_17, ws_20, ws_28, kc_0, kc_1, kn_1, kc_2, kn_2, kc_3, kc_4, kc_5, kc_6, kc_7, kc_8, kc_9, kc_10, kc_12, kc_13, kc_14, kc_16, kc_17, kc_18, kc_19, kc_20, kc_21, kc_22, kc_24, kc_28, kc_30, kc_32, kc_37, kc_40, kc_41, kc_42, kc_43, kc_45, kc_48, kc_56, kc_57, kc_59, kc_60, kc_61, kc_64, kc_73, kc_78, kc_91, kc_95, kc_96, kc_97, kc_98, kc_99, kc_100, kc_112, kc_122, kc_125, kc_126, kc_150, kc_162, kc_163, kc_168, kc_186, kc_190, kc_200, kc_250, kc_255, kc_355, kc_356, kc_404, kc_405, kc_429, kc_573, kc_999, kc_1000, kc_1002, kc_1100, kc_1891, kc_2200, kc_4719, kc_4869, kc_4881, kc_5148, kc_9999, kn_9999, kc_10000, kc_12345, kc_19741, kc_25433, kc_65536, kc_320403, kc_628412, kc_629093, kc_660401, kc_679843, kc_918640, kc_979410, kc_1178088, kc_6232410, kc_24644941, kc_36238189, kc_38270444, kc_392531318, kc_425693491, kc_1103515245, kc_1342154595, kc_2147483648, kc_42328242873, kc_891704255789, kc_1722105685577, kc_1858726030364, ct_0, ct_1, ct_2, ct_3, ct_4, ct_5, cf_0, cf_1, cf_2, cf_3, cf_4, cf_5, w_ty6, w_ty7, m_sv, m_z0, m_hd, m_g0, m_gs, m_s0, m_ss, m_ap, m_an, forall_const, true_and, and_true, ne_eq, not_true_eq_false, not_false_eq_true, false_implies, true_implies, implies_true, eq_self, reduceCtorEq, Nat.reduceDiv, Nat.reduceMod, Int.reduceToNat, or_true, true_or, or_false, false_or, or_self, m_it, m_if, m_c1, m_01, m_02, m_03, m_04, m_10, m_12, m_13, m_14, m_20, m_21, m_23, m_24, m_30, m_31, m_32, m_34, m_40, m_41, m_42, m_43]
  obtain ⟨v, e1_w, e2_w, e3_w⟩ := c193 h c hp c0 c1_w
  exact ⟨[v], h, e1_w, fun k => ⟨e2_w, v, rfl, e2_w, fun _ => ⟨e3_w.mp k, by rw [jat hp]; rfl⟩, fun k2 => absurd k2 k⟩, fun k => ⟨e2_w, v, rfl, e2_w, fun k2 => absurd k k2, fun _ => ⟨fun z => absurd k (e3_w.mpr z), by rw [jat0 hp, up_self]⟩⟩⟩
theorem g_197 (c196 : G196 P N g (evF xs L ck K cW g_M n)) (c191 : G191 P N g (evF xs L ck K cW g_M n)) : G197 P N g (evF xs L ck K cW g_M (n + 1)) := fun h c hp c0 c1_w => by
  suffices hs : ∃ r h', evF xs L ck K cW g_M (n + 1) 197 [182, c] ((a_g3, g), h) = some (1, r, ((a_g3, g), h')) ∧ r = [] ∧ PA N h h' ∧ (tkW h c → h' = atp h) ∧ (¬tkW h c → h' 182 7 = h 182 7 ∧ h' 182 8 ≠ 0 ∧ (h 182 8 = 0 → h' 182 8 = 1 + 16 * h 185 (h 182 7).toNat)) by
    obtain ⟨r, h', e1_w, rfl, e2_w⟩ := hs
    exact ⟨h', e1_w, e2_w⟩
  refine tr_of gm_197 (B := fun r h' => r = [] ∧ PA N h h' ∧ (tkW h c → h' = atp h) ∧ (¬tkW h c → h' 182 7 = h 182 7 ∧ h' 182 8 ≠ 0 ∧ (h 182 8 = 0 → h' 182 8 = 1 + 16 * h 185 (h 182 7).toNat))) ?_
  show wS _ _ K bb_197 [182, c] h _
  generalize evF xs L ck K cW g_M n = F at c196 c191 ⊢
  unfold bb_197
  simp only [wf_4, wf_40, wf_5, wf_50, wf_6, wl_1, wt_1, wu_1, wa_1, wl_4, wt_4, wu_4, wa_4, wl_5, wt_5, wu_5, wa_5, wl_6, wt_6, wu_6, wa_6, wl_9, wt_9, wu_9, wa_9, wl_10, wt_10, wu_10, wa_10, wl_11, wt_11, wu_11, wa_11, wl_13, wt_13, wu_13, wa_13, wl_14, wt_14, wu_14, wa_14, wl_15, wt_15, wu_15, wa_15, wl_16, wt_16, wu_16, wa_16, wl_17, wt_17, wu_17, wa_17, wl_20, wt_20, wu_20, wa_20, wl_21, wt_21, wu_21, wa_21, wl_22, wt_22, wu_22, wa_22, wl_23, wt_23, wu_23, wa_23, wl_24, wt_24, wu_24, wa_24, wl_26, wt_26, wu_26, wa_26, wl_27, wt_27, wu_27, wa_27, wl_28, wt_28, wu_28, wa_28, we_1, we_3, we_10, we_14, we_15, we_16, we_17, we_18, we_20, we_21, we_22, we_24, we_25, we_26, we_27, we_28, we_30, we_31, we_32, wc_20, wc_21, wc_22, wc_24, wc_25, wc_26, wc_27, wc_3, wc_4, wc_7, wc_28, wc_32, ws_1, ws_2, ws_3, ws_4, ws_9, ws_10, ws_11, ws_14, ws_15, ws_16, ws_27, ws_17, ws_20, ws_28, kc_0, kc_1, kn_1, kc_2, kn_2, kc_3, kc_4, kc_5, kc_6, kc_7, kc_8, kc_9, kc_10, kc_12, kc_13, kc_14, kc_16, kc_17, kc_18, kc_19, kc_20, kc_21, kc_22, kc_24, kc_28, kc_30, kc_32, kc_37, kc_40, kc_41, kc_42, kc_43, kc_45, kc_48, kc_56, kc_57, kc_59, kc_60, kc_61, kc_64, kc_73, kc_78, kc_91, kc_95, kc_96, kc_97, kc_98, kc_99, kc_100, kc_112, kc_122, kc_125, kc_126, kc_150, kc_162, kc_163, kc_168, kc_186, kc_190, kc_200, kc_250, kc_255, kc_355, kc_356, kc_404, kc_405, kc_429, kc_573, kc_999, kc_1000, kc_1002, kc_1100, kc_1891, kc_2200, kc_4719, kc_4869, kc_4881, kc_5148, kc_9999, kn_9999, kc_10000, kc_12345, kc_19741, kc_25433, kc_65536, kc_320403, kc_628412, kc_629093, kc_660401, kc_679843, kc_918640, kc_979410, kc_1178088, kc_6232410, kc_24644941, kc_36238189, kc_38270444, kc_392531318, kc_425693491, kc_1103515245, kc_1342154595, kc_2147483648, kc_42328242873, kc_891704255789, kc_1722105685577, kc_1858726030364, ct_0, ct_1, ct_2, ct_3, ct_4, ct_5, cf_0, cf_1, cf_2, cf_3, cf_4, cf_5, w_ty6, w_ty7, m_sv, m_z0, m_hd, m_g0, m_gs, m_s0, m_ss, m_ap, m_an, forall_const, true_and, and_true, ne_eq, not_true_eq_false, not_false_eq_true, false_implies, true_implies, implies_true, eq_self, reduceCtorEq, Nat.reduceDiv, Nat.reduceMod, Int.reduceToNat, or_true, true_or, or_false, false_or, or_self, m_it, m_if, m_c1, m_01, m_02, m_03, m_04, m_10, m_12, m_13, m_14, m_20, m_21, m_23, m_24, m_30, m_31, m_32, m_34, m_40, m_41, m_42, m_43]
  obtain ⟨v, h2, e1_w, e2_w, e3_w, e4_w⟩ := c196 h c hp c0 c1_w
  refine ⟨[v], h2, e1_w, fun k => ?_, fun k => ?_⟩
  · obtain ⟨ht, rfl⟩ := e3_w k
    exact ⟨tkW.pa hp ht, fun _ => rfl, fun k2 => absurd ht k2⟩
  · obtain ⟨hn, rfl⟩ := e4_w k
    obtain ⟨h', f1_w, f2_w, f3_w, f4_w, f5_w⟩ := c191 h2 1 hp (by decide) (by decide)
    exact ⟨[], h', f1_w, f2_w, fun z => absurd z hn, fun _ => ⟨f3_w, f4_w, f5_w⟩⟩
def B200 (N : Nat) (h : XH) (l u : Int) (r : List Int) (h' : XH) : Prop := ∃ v, r = [v] ∧ PA N h h' ∧ InI v ∧ (h' 182 8 = 0 → l ≤ v ∧ v ≤ u ∧ h' = atp h ∧ h 182 8 = 0 ∧ h 184 (h 182 7).toNat = 2 ∧ v = h 186 (h 182 7).toNat) ∧ (h' 182 8 ≠ 0 → v = 0 ∧ h' 182 7 = h 182 7)
theorem g_200 (c191 : G191 P N g (evF xs L ck K cW g_M n)) : G200 P N g (evF xs L ck K cW g_M (n + 1)) := fun h l u hp hl hu => by
  suffices hs : ∃ r h', evF xs L ck K cW g_M (n + 1) 200 [182, l, u] ((a_g3, g), h) = some (1, r, ((a_g3, g), h')) ∧ B200 N h l u r h' by
    obtain ⟨r, h', e1_w, v, rfl, e2_w⟩ := hs
    exact ⟨v, h', e1_w, e2_w⟩
  refine tr_of gm_200 ?_
  show wS _ _ K bb_200 [182, l, u] h _
  generalize evF xs L ck K cW g_M n = F at c191 ⊢
  unfold bb_200
  simp only [wf_4, wf_40, wf_5, wf_50, wf_6, wl_1, wt_1, wu_1, wa_1, wl_4, wt_4, wu_4, wa_4, wl_5, wt_5, wu_5, wa_5, wl_6, wt_6, wu_6, wa_6, wl_9, wt_9, wu_9, wa_9, wl_10, wt_10, wu_10, wa_10, wl_11, wt_11, wu_11, wa_11, wl_13, wt_13, wu_13, wa_13, wl_14, wt_14, wu_14, wa_14, wl_15, wt_15, wu_15, wa_15, wl_16, wt_16, wu_16, wa_16, wl_17, wt_17, wu_17, wa_17, wl_20, wt_20, wu_20, wa_20, wl_21, wt_21, wu_21, wa_21, wl_22, wt_22, wu_22, wa_22, wl_23, wt_23, wu_23, wa_23, wl_24, wt_24, wu_24, wa_24, wl_26, wt_26, wu_26, wa_26, wl_27, wt_27, wu_27, wa_27, wl_28, wt_28, wu_28, wa_28, we_1, we_3, we_10, we_14, we_15, we_16, we_17, we_18, we_20, we_21, we_22, we_24, we_25, we_26, we_27, we_28, we_30, we_31, we_32, wc_20, wc_21, wc_22, wc_24, wc_25, wc_26, wc_27, wc_3, wc_4, wc_7, wc_28, wc_32, ws_1, ws_2, ws_3, ws_4, ws_9, ws_10, ws_11, ws_14, ws_15, ws_16, ws_27, ws_17, ws_20, ws_28, kc_0, kc_1, kn_1, kc_2, kn_2, kc_3, kc_4, kc_5, kc_6, kc_7, kc_8, kc_9, kc_10, kc_12, kc_13, kc_14, kc_16, kc_17, kc_18, kc_19, kc_20, kc_21, kc_22, kc_24, kc_28, kc_30, kc_32, kc_37, kc_40, kc_41, kc_42, kc_43, kc_45, kc_48, kc_56, kc_57, kc_59, kc_60, kc_61, kc_64, kc_73, kc_78, kc_91, kc_95, kc_96, kc_97, kc_98, kc_99, kc_100, kc_112, kc_122, kc_125, kc_126, kc_150, kc_162, kc_163, kc_168, kc_186, kc_190, kc_200, kc_250, kc_255, kc_355, kc_356, kc_404, kc_405, kc_429, kc_573, kc_999, kc_1000, kc_1002, kc_1100, kc_1891, kc_2200, kc_4719, kc_4869, kc_4881, kc_5148, kc_9999, kn_9999, kc_10000, kc_12345, kc_19741, kc_25433, kc_65536, kc_320403, kc_628412, kc_629093, kc_660401, kc_679843, kc_918640, kc_979410, kc_1178088, kc_6232410, kc_24644941, kc_36238189, kc_38270444, kc_392531318, kc_425693491, kc_1103515245, kc_1342154595, kc_2147483648, kc_42328242873, kc_891704255789, kc_1722105685577, kc_1858726030364, ct_0, ct_1, ct_2, ct_3, ct_4, ct_5, cf_0, cf_1, cf_2, cf_3, cf_4, cf_5, w_ty6, w_ty7, m_sv, m_z0, m_hd, m_g0, m_gs, m_s0, m_ss, m_ap, m_an, forall_const, true_and, and_true, ne_eq, not_true_eq_false, not_false_eq_true, false_implies, true_implies, implies_true, eq_self, reduceCtorEq, Nat.reduceDiv, Nat.reduceMod, Int.reduceToNat, or_true, true_or, or_false, false_or, or_self, m_it, m_if, m_c1, m_01, m_02, m_03, m_04, m_10, m_12, m_13, m_14, m_20, m_21, m_23, m_24, m_30, m_31, m_32, m_34, m_40, m_41, m_42, m_43]
  have wr_w : ∀ (w : Int) (X : XH → Prop), 1 ≤ w → w ≤ 5 → ∃ r h2, F 191 [182, w] ((a_g3, g), h) = some (1, r, ((a_g3, g), h2)) ∧ (h2 182 8 > 0 → B200 N h l u [0] h2) ∧ (h2 182 8 ≤ 0 → X h2) := fun w X w1_w w2_w => by
    obtain ⟨h', f1_w, f2_w, f3_w, f4_w, f5_w⟩ := c191 h w hp w1_w w2_w
    have f6_w := f2_w.2.1
    exact ⟨[], h', f1_w, fun _ => ⟨0, rfl, f2_w, in_0, fun z => absurd z f4_w, fun _ => ⟨rfl, f3_w⟩⟩, fun z => by omega⟩
  have rf := PA.rf hp
  have hp2 := hp
  obtain ⟨q, ⟨p1_w, p2_w, p3_w, p4_w, p5_w, p6_w, p7_w⟩, d⟩ := hp2
  have ba_w : 0 ≤ h 182 7 ∧ h 182 7 < 1002 := ⟨p2_w, by omega⟩
  refine ⟨fun k1_w => ⟨ba_w, fun k2 => wr_w 1 _ (by decide) (by decide), fun k2 => ⟨fun _ => ⟨ba_w, fun k3 => wr_w 4 _ (by decide) (by decide), fun k3 => ⟨ba_w, fun k4 => wr_w 4 _ (by decide) (by decide), fun k4 => ⟨fun z => by omega, fun _ => ?_⟩⟩⟩, fun z => absurd k1_w z⟩⟩, fun k1_w => ⟨fun z => absurd z k1_w, fun _ => ⟨fun _ => ⟨0, rfl, rf, in_0, fun z => absurd z k1_w, fun _ => ⟨rfl, rfl⟩⟩, fun z => by omega⟩⟩⟩
  have k3 : l ≤ h 186 (h 182 7).toNat := k3
  have k4 : h 186 (h 182 7).toNat ≤ u := k4
  rw [jat hp, up_eq]
  have e1_w : j_iop 1 (h 182 7 + 1) 1 = h 182 7 := by rw [jsub (by omega) (by omega)]; omega
  rw [e1_w, up_ne (fun z => absurd z.1 (by decide))]
  have hin : InI (h 186 (h 182 7).toNat) := by
    unfold InI at hl hu ⊢
    omega
  have e2_w : j_un 3 (h 186 (h 182 7).toNat) = h 186 (h 182 7).toNat := j32_in hin
  rw [e2_w]
  refine ⟨ba_w, _, rfl, PA.next hp (by rw [k2]; decide), hin, fun _ => ⟨k3, k4, rfl, k1_w, k2, rfl⟩, fun z => absurd ?_ z⟩
  rw [up_ne (fun z => absurd z.2 (by decide))]
  exact k1_w
theorem g_201 (hK_w : 4294967300 ≤ K) (c193 : G193 P N g (evF xs L ck K cW g_M n)) : G201 P N g (evF xs L ck K cW g_M (n + 1)) := fun h a m hp a0_w m0_w am => by
  suffices hs : ∃ r h', evF xs L ck K cW g_M (n + 1) 201 [182, a, m] ((a_g3, g), h) = some (1, r, ((a_g3, g), h')) ∧ h' = h ∧ ∃ v, r = [v] ∧ -1 ≤ v ∧ v < max m 1 ∧ (0 ≤ v → v < m ∧ tkW h (a + v)) ∧ (v = -1 → ∀ k, 0 ≤ k → k < m → ¬tkW h (a + k)) by
    obtain ⟨r, h', e1_w, rfl, v, rfl, e2_w⟩ := hs
    exact ⟨v, e1_w, e2_w⟩
  refine tr_of gm_201 (B := fun r h' => h' = h ∧ ∃ v, r = [v] ∧ -1 ≤ v ∧ v < max m 1 ∧ (0 ≤ v → v < m ∧ tkW h (a + v)) ∧ (v = -1 → ∀ k, 0 ≤ k → k < m → ¬tkW h (a + k))) ?_
  show wS _ _ K bb_201 [182, a, m, 0, 0] h _
  generalize evF xs L ck K cW g_M n = F at c193 ⊢
  unfold bb_201
  simp only [wf_4, wf_40, wf_5, wf_50, wf_6, wl_1, wt_1, wu_1, wa_1, wl_4, wt_4, wu_4, wa_4, wl_5, wt_5, wu_5, wa_5, wl_6, wt_6, wu_6, wa_6, wl_9, wt_9, wu_9, wa_9, wl_10, wt_10, wu_10, wa_10, wl_11, wt_11, wu_11, wa_11, wl_13, wt_13, wu_13, wa_13, wl_14, wt_14, wu_14, wa_14, wl_15, wt_15, wu_15, wa_15, wl_16, wt_16, wu_16, wa_16, wl_17, wt_17, wu_17, wa_17, wl_20, wt_20, wu_20, wa_20, wl_21, wt_21, wu_21, wa_21, wl_22, wt_22, wu_22, wa_22, wl_23, wt_23, wu_23, wa_23, wl_24, wt_24, wu_24, wa_24, wl_26, wt_26, wu_26, wa_26, wl_27, wt_27, wu_27, wa_27, wl_28, wt_28, wu_28, wa_28, we_1, we_3, we_10, we_14, we_15, we_16, we_17, we_18, we_20, we_21, we_22, we_24, we_25, we_26, we_27, we_28, we_30, we_31, we_32, wc_20, wc_21, wc_22, wc_24, wc_25, wc_26, wc_27, wc_3, wc_4, wc_7, wc_28, wc_32, ws_1, ws_2, ws_3, ws_4, ws_9, ws_10, ws_11, ws_14, ws_15, ws_16, ws_27, ws_17, ws_20, ws_28, kc_0, kc_1, kn_1, kc_2, kn_2, kc_3, kc_4, kc_5, kc_6, kc_7, kc_8, kc_9, kc_10, kc_12, kc_13, kc_14, kc_16, kc_17, kc_18, kc_19, kc_20, kc_21, kc_22, kc_24, kc_28, kc_30, kc_32, kc_37, kc_40, kc_41, kc_42, kc_43, kc_45, kc_48, kc_56, kc_57, kc_59, kc_60, kc_61, kc_64, kc_73, kc_78, kc_91, kc_95, kc_96, kc_97, kc_98, kc_99, kc_100, kc_112, kc_122, kc_125, kc_126, kc_150, kc_162, kc_163, kc_168, kc_186, kc_190, kc_200, kc_250, kc_255, kc_355, kc_356, kc_404, kc_405, kc_429, kc_573, kc_999, kc_1000, kc_1002, kc_1100, kc_1891, kc_2200, kc_4719, kc_4869, kc_4881, kc_5148, kc_9999, kn_9999, kc_10000, kc_12345, kc_19741, kc_25433, kc_65536, kc_320403, kc_628412, kc_629093, kc_660401, kc_679843, kc_918640, kc_979410, kc_1178088, kc_6232410, kc_24644941, kc_36238189, kc_38270444, kc_392531318, kc_425693491, kc_1103515245, kc_1342154595, kc_2147483648, kc_42328242873, kc_891704255789, kc_1722105685577, kc_1858726030364, ct_0, ct_1, ct_2, ct_3, ct_4, ct_5, cf_0, cf_1, cf_2, cf_3, cf_4, cf_5, w_ty6, w_ty7, m_sv, m_z0, m_hd, m_g0, m_gs, m_s0, m_ss, m_ap, m_an, forall_const, true_and, and_true, ne_eq, not_true_eq_false, not_false_eq_true, false_implies, true_implies, implies_true, eq_self, reduceCtorEq, Nat.reduceDiv, Nat.reduceMod, Int.reduceToNat, or_true, true_or, or_false, false_or, or_self, m_it, m_if, m_c1, m_01, m_02, m_03, m_04, m_10, m_12, m_13, m_14, m_20, m_21, m_23, m_24, m_30, m_31, m_32, m_34, m_40, m_41, m_42, m_43]
  refine w_lp (fun en h' => ∃ v k : Int, en = [182, a, m, v, k] ∧ 0 ≤ k ∧ k ≤ m ∧ -1 ≤ v ∧ (0 ≤ v → v < k ∧ tkW h (a + v)) ∧ (v = -1 → ∀ i, 0 ≤ i → i < k → ¬tkW h (a + i)) ∧ h' = h) (fun en _ => (m - en.getD 4 0).toNat) ⟨-1, 0, rfl, by omega, by omega, by omega, fun z => absurd z (by decide), fun _ i i0 i1_w => by omega, rfl⟩ ?_
  rintro en h1 ⟨v, k, rfl, k0_w, k1_w, v0_w, v1_w, v2, rfl⟩
  refine ⟨?_, ?_⟩
  · show (m - k).toNat < K
    omega
  simp only [wf_4, wf_40, wf_5, wf_50, wf_6, wl_1, wt_1, wu_1, wa_1, wl_4, wt_4, wu_4, wa_4, wl_5, wt_5, wu_5, wa_5, wl_6, wt_6, wu_6, wa_6, wl_9, wt_9, wu_9, wa_9, wl_10, wt_10, wu_10, wa_10, wl_11, wt_11, wu_11, wa_11, wl_13, wt_13, wu_13, wa_13, wl_14, wt_14, wu_14, wa_14, wl_15, wt_15, wu_15, wa_15, wl_16, wt_16, wu_16, wa_16, wl_17, wt_17, wu_17, wa_17, wl_20, wt_20, wu_20, wa_20, wl_21, wt_21, wu_21, wa_21, wl_22, wt_22, wu_22, wa_22, wl_23, wt_23, wu_23, wa_23, wl_24, wt_24, wu_24, wa_24, wl_26, wt_26, wu_26, wa_26, wl_27, wt_27, wu_27, wa_27, wl_28, wt_28, wu_28, wa_28, we_1, we_3, we_10, we_14, we_15, we_16, we_17, we_18, we_20, we_21, we_22, we_24, we_25, we_26, we_27, we_28, we_30, we_31, we_32, wc_20, wc_21, wc_22, wc_24, wc_25, wc_26, wc_27, wc_3, wc_4, wc_7, wc_28, wc_32, ws_1, ws_2, ws_3, ws_4, ws_9, ws_10, ws_11, ws_14, ws_15, ws_16, ws_27, ws_17, ws_20, ws_28, kc_0, kc_1, kn_1, kc_2, kn_2, kc_3, kc_4, kc_5, kc_6, kc_7, kc_8, kc_9, kc_10, kc_12, kc_13, kc_14, kc_16, kc_17, kc_18, kc_19, kc_20, kc_21, kc_22, kc_24, kc_28, kc_30, kc_32, kc_37, kc_40, kc_41, kc_42, kc_43, kc_45, kc_48, kc_56, kc_57, kc_59, kc_60, kc_61, kc_64, kc_73, kc_78, kc_91, kc_95, kc_96, kc_97, kc_98, kc_99, kc_100, kc_112, kc_122, kc_125, kc_126, kc_150, kc_162, kc_163, kc_168, kc_186, kc_190, kc_200, kc_250, kc_255, kc_355, kc_356, kc_404, kc_405, kc_429, kc_573, kc_999, kc_1000, kc_1002, kc_1100, kc_1891, kc_2200, kc_4719, kc_4869, kc_4881, kc_5148, kc_9999, kn_9999, kc_10000, kc_12345, kc_19741, kc_25433, kc_65536, kc_320403, kc_628412, kc_629093, kc_660401, kc_679843, kc_918640, kc_979410, kc_1178088, kc_6232410, kc_24644941, kc_36238189, kc_38270444, kc_392531318, kc_425693491, kc_1103515245, kc_1342154595, kc_2147483648, kc_42328242873, kc_891704255789, kc_1722105685577, kc_1858726030364, ct_0, ct_1, ct_2, ct_3, ct_4, ct_5, cf_0, cf_1, cf_2, cf_3, cf_4, cf_5, w_ty6, w_ty7, m_sv, m_z0, m_hd, m_g0, m_gs, m_s0, m_ss, m_ap, m_an, forall_const, true_and, and_true, ne_eq, not_true_eq_false, not_false_eq_true, false_implies, true_implies, implies_true, eq_self, reduceCtorEq, Nat.reduceDiv, Nat.reduceMod, Int.reduceToNat, or_true, true_or, or_false, false_or, or_self, m_it, m_if, m_c1, m_01, m_02, m_03, m_04, m_10, m_12, m_13, m_14, m_20, m_21, m_23, m_24, m_30, m_31, m_32, m_34, m_40, m_41, m_42, m_43]
  refine ⟨fun hk => ?_, fun hk => ⟨v, rfl, v0_w, ?_, fun z => ?_, fun z i i0 i1_w => v2 z i i0 (by omega)⟩⟩
  · rw [jadd (x := a) (y := k) (by omega) (by omega), jinc (by omega) (by omega)]
    obtain ⟨w, e1_w, e2_w, e3_w⟩ := c193 h1 (a + k) hp (by omega) (by omega)
    refine ⟨[w], h1, e1_w, fun z => ⟨⟨k, k + 1, rfl, by omega, by omega, by omega, fun _ => ⟨by omega, e3_w.mp z⟩, fun z2 => by omega, rfl⟩, ?_⟩, fun z => ⟨⟨v, k + 1, rfl, by omega, by omega, v0_w, fun z2 => ⟨by have := (v1_w z2).1; omega, (v1_w z2).2⟩, fun z2 i i0 i1_w => ?_, rfl⟩, ?_⟩⟩
    · show (m - (k + 1)).toNat < (m - k).toNat
      omega
    · by_cases e : i = k
      · subst e
        exact fun z3 => absurd z (e3_w.mpr z3)
      · exact v2 z2 i i0 (by omega)
    · show (m - (k + 1)).toNat < (m - k).toNat
      omega
  · by_cases z : 0 ≤ v
    · have := (v1_w z).1
      omega
    · omega
  · have := v1_w z
    exact ⟨by omega, this.2⟩
end PAR3
end
section
/-! ===== the reference's parser: names_w and words of lists_w ===== -/
def G202 (P : Int × Int) (N : Nat) (g : Nat × Nat) (F : XP) : Prop := ∀ (h : XH) (a m : Int), PK P N h → 0 ≤ a → 1 ≤ m → a + m ≤ 24 → ∃ v h', F 202 [182, a, m] ((a_g3, g), h) = some (1, [v], ((a_g3, g), h')) ∧ PA N h h' ∧ InI v ∧ (h' 182 8 = 0 → 0 ≤ v ∧ v < m ∧ h' = atp h ∧ tkW h (a + v)) ∧ (h' 182 8 ≠ 0 → v = 0 ∧ h' 182 7 = h 182 7)
/-- a NAME: a WORD that is_w none of those that are kept -/
def tkN (h : XH) : Prop := h 182 8 = 0 ∧ h 184 (h 182 7).toNat = 1 ∧ ∀ k, 0 ≤ k → k < 20 → ¬tkW h k
def G203 (P : Int × Int) (N : Nat) (g : Nat × Nat) (F : XP) : Prop := ∀ (h : XH), PK P N h → ∃ v, F 203 [182] ((a_g3, g), h) = some (1, [v], ((a_g3, g), h)) ∧ (v = 0 ∨ v = 1) ∧ (v ≠ 0 ↔ tkN h)
def G204 (P : Int × Int) (N : Nat) (g : Nat × Nat) (F : XP) : Prop := ∀ (h : XH) (a m : Int), PK P N h → 0 ≤ a → 0 ≤ m → a + m ≤ 28 → ∃ v, F 204 [182, a, m] ((a_g3, g), h) = some (1, [v], ((a_g3, g), h)) ∧ -1 ≤ v ∧ (0 ≤ v → v < m ∧ h 190 (a + v).toNat = h 186 (h 182 7).toNat) ∧ (v = -1 → ∀ k, 0 ≤ k → k < m → h 190 (a + k).toNat ≠ h 186 (h 182 7).toNat)
def G205 (P : Int × Int) (N : Nat) (g : Nat × Nat) (F : XP) : Prop := ∀ (h : XH) (a m : Int), PK P N h → 0 ≤ a → 0 ≤ m → a + m ≤ 28 → ∃ v h', F 205 [182, a, m] ((a_g3, g), h) = some (1, [v], ((a_g3, g), h')) ∧ PA N h h' ∧ InI v ∧ (h' 182 8 = 0 → 0 ≤ v ∧ v < m ∧ h' = atp h ∧ tkN h) ∧ (h' 182 8 ≠ 0 → v = 0 ∧ h' 182 7 = h 182 7)
section PAR4
variable {P : Int × Int} {N : Nat} {g : Nat × Nat} {xs : Nat → Int} {L K n : Nat} {ck : Nat → List Nat} {cW : Nat → Nat → Int} {h : XH}
theorem atp_8 : atp h 182 8 = h 182 8 := up_ne (fun z => absurd z.2 (by decide))
/-- how takeOne and takeTold end -/
def Fin7 (B : List Int → XH → Prop) (h2 : XH) (x : Int) : Prop := (h2 182 8 > 0 → (j_up h2 182 7 (j_iop 0 (h2 182 7) 0) 182 8 > 0 → B [0] (j_up h2 182 7 (j_iop 0 (h2 182 7) 0))) ∧ (j_up h2 182 7 (j_iop 0 (h2 182 7) 0) 182 8 ≤ 0 → B [x] (j_up h2 182 7 (j_iop 0 (h2 182 7) 0)))) ∧ (h2 182 8 ≤ 0 → (j_up h2 182 7 (j_iop 0 (h2 182 7) 1) 182 8 > 0 → B [0] (j_up h2 182 7 (j_iop 0 (h2 182 7) 1))) ∧ (j_up h2 182 7 (j_iop 0 (h2 182 7) 1) 182 8 ≤ 0 → B [x] (j_up h2 182 7 (j_iop 0 (h2 182 7) 1))))
theorem fin7_f {B : List Int → XH → Prop} {h2 : XH} {x : Int} (h8 : h2 182 8 > 0) (hj : j_iop 0 (h2 182 7) 0 = h2 182 7) (hb_w : B [0] h2) : Fin7 B h2 x := by
  unfold Fin7
  rw [hj, up_self]
  exact ⟨fun _ => ⟨fun _ => hb_w, fun z => by omega⟩, fun z => by omega⟩
theorem fin7_o {B : List Int → XH → Prop} {h2 : XH} {x : Int} (h8 : h2 182 8 = 0) (hj : j_iop 0 (h2 182 7) 1 = h2 182 7 + 1) (hb_w : B [x] (atp h2)) : Fin7 B h2 x := by
  unfold Fin7
  rw [hj]
  refine ⟨fun z => by omega, fun _ => ⟨fun z => ?_, fun _ => hb_w⟩⟩
  rw [up_ne (fun z => absurd z.2 (by decide))] at z
  omega
def B202 (N : Nat) (h : XH) (a m : Int) (r : List Int) (h' : XH) : Prop := ∃ v, r = [v] ∧ PA N h h' ∧ InI v ∧ (h' 182 8 = 0 → 0 ≤ v ∧ v < m ∧ h' = atp h ∧ tkW h (a + v)) ∧ (h' 182 8 ≠ 0 → v = 0 ∧ h' 182 7 = h 182 7)
theorem g_202 (c201 : G201 P N g (evF xs L ck K cW g_M n)) (c191 : G191 P N g (evF xs L ck K cW g_M n)) : G202 P N g (evF xs L ck K cW g_M (n + 1)) := fun h a m hp a0_w m0_w am => by
  suffices hs : ∃ r h', evF xs L ck K cW g_M (n + 1) 202 [182, a, m] ((a_g3, g), h) = some (1, r, ((a_g3, g), h')) ∧ B202 N h a m r h' by
    obtain ⟨r, h', e1_w, v, rfl, e2_w⟩ := hs
    exact ⟨v, h', e1_w, e2_w⟩
  refine tr_of gm_202 ?_
  show wS _ _ K bb_202 [182, a, m, 0] h _
  generalize evF xs L ck K cW g_M n = F at c201 c191 ⊢
  unfold bb_202
  simp only [wf_4, wf_40, wf_5, wf_50, wf_6, wl_1, wt_1, wu_1, wa_1, wl_4, wt_4, wu_4, wa_4, wl_5, wt_5, wu_5, wa_5, wl_6, wt_6, wu_6, wa_6, wl_9, wt_9, wu_9, wa_9, wl_10, wt_10, wu_10, wa_10, wl_11, wt_11, wu_11, wa_11, wl_13, wt_13, wu_13, wa_13, wl_14, wt_14, wu_14, wa_14, wl_15, wt_15, wu_15, wa_15, wl_16, wt_16, wu_16, wa_16, wl_17, wt_17, wu_17, wa_17, wl_20, wt_20, wu_20, wa_20, wl_21, wt_21, wu_21, wa_21, wl_22, wt_22, wu_22, wa_22, wl_23, wt_23, wu_23, wa_23, wl_24, wt_24, wu_24, wa_24, wl_26, wt_26, wu_26, wa_26, wl_27, wt_27, wu_27, wa_27, wl_28, wt_28, wu_28, wa_28, we_1, we_3, we_10, we_14, we_15, we_16, we_17, we_18, we_20, we_21, we_22, we_24, we_25, we_26, we_27, we_28, we_30, we_31, we_32, wc_20, wc_21, wc_22, wc_24, wc_25, wc_26, wc_27, wc_3, wc_4, wc_7, wc_28, wc_32, ws_1, ws_2, ws_3, ws_4, ws_9, ws_10, ws_11, ws_14, ws_15, ws_16, ws_27, ws_17, ws_20, ws_28, kc_0, kc_1, kn_1, kc_2, kn_2, kc_3, kc_4, kc_5, kc_6, kc_7, kc_8, kc_9, kc_10, kc_12, kc_13, kc_14, kc_16, kc_17, kc_18, kc_19, kc_20, kc_21, kc_22, kc_24, kc_28, kc_30, kc_32, kc_37, kc_40, kc_41, kc_42, kc_43, kc_45, kc_48, kc_56, kc_57, kc_59, kc_60, kc_61, kc_64, kc_73, kc_78, kc_91, kc_95, kc_96, kc_97, kc_98, kc_99, kc_100, kc_112, kc_122, kc_125, kc_126, kc_150, kc_162, kc_163, kc_168, kc_186, kc_190, kc_200, kc_250, kc_255, kc_355, kc_356, kc_404, kc_405, kc_429, kc_573, kc_999, kc_1000, kc_1002, kc_1100, kc_1891, kc_2200, kc_4719, kc_4869, kc_4881, kc_5148, kc_9999, kn_9999, kc_10000, kc_12345, kc_19741, kc_25433, kc_65536, kc_320403, kc_628412, kc_629093, kc_660401, kc_679843, kc_918640, kc_979410, kc_1178088, kc_6232410, kc_24644941, kc_36238189, kc_38270444, kc_392531318, kc_425693491, kc_1103515245, kc_1342154595, kc_2147483648, kc_42328242873, kc_891704255789, kc_1722105685577, kc_1858726030364, ct_0, ct_1, ct_2, ct_3, ct_4, ct_5, cf_0, cf_1, cf_2, cf_3, cf_4, cf_5, w_ty6, w_ty7, m_sv, m_z0, m_hd, m_g0, m_gs, m_s0, m_ss, m_ap, m_an, forall_const, true_and, and_true, ne_eq, not_true_eq_false, not_false_eq_true, false_implies, true_implies, implies_true, eq_self, reduceCtorEq, Nat.reduceDiv, Nat.reduceMod, Int.reduceToNat, or_true, true_or, or_false, false_or, or_self, m_it, m_if, m_c1, m_01, m_02, m_03, m_04, m_10, m_12, m_13, m_14, m_20, m_21, m_23, m_24, m_30, m_31, m_32, m_34, m_40, m_41, m_42, m_43]
  have rf := PA.rf hp
  have p1_w := hp.2.1.1
  obtain ⟨v, e1_w, e2_w, e3_w, e4_w, e5_w⟩ := c201 h a m hp a0_w (by omega) am
  obtain ⟨h2, f1_w, f2_w, f3_w, f4_w, -⟩ := c191 h 1 hp (by decide) (by decide)
  have f5_w := f2_w.2.1
  have stop_w : ∀ x, Fin7 (B202 N h a m) h2 x := fun x => fin7_f (by omega) (by rw [f3_w]; exact jat0 hp) ⟨0, rfl, f2_w, in_0, fun z => absurd z f4_w, fun _ => ⟨rfl, f3_w⟩⟩
  have idle_w : h 182 8 ≠ 0 → ∀ x, Fin7 (B202 N h a m) h x := fun z x => fin7_f (by omega) (jat0 hp) ⟨0, rfl, rf, in_0, fun z2 => absurd z2 z, fun _ => ⟨rfl, rfl⟩⟩
  refine ⟨fun k1_w => ⟨fun z => by omega, fun z => idle_w z _⟩, fun k1_w => ⟨[v], h, e1_w, fun k2 => ⟨fun k3 => ⟨[], h2, f1_w, stop_w _⟩, fun k3 => ?_⟩, fun k2 => idle_w k2 _⟩⟩
  obtain ⟨g1, g2⟩ := e4_w k3
  have k4 : 0 ≤ v := k3
  exact fin7_o (B := B202 N h a m) k2 (jat hp) ⟨v, rfl, tkW.pa hp g2, ⟨by omega, by omega⟩, fun _ => ⟨k3, g1, rfl, g2⟩, fun z => absurd (atp_8.trans k2) z⟩
theorem g_203 (c201 : G201 P N g (evF xs L ck K cW g_M n)) : G203 P N g (evF xs L ck K cW g_M (n + 1)) := fun h hp => by
  suffices hs : ∃ r h', evF xs L ck K cW g_M (n + 1) 203 [182] ((a_g3, g), h) = some (1, r, ((a_g3, g), h')) ∧ h' = h ∧ ∃ v, r = [v] ∧ (v = 0 ∨ v = 1) ∧ (v ≠ 0 ↔ tkN h) by
    obtain ⟨r, h', e1_w, rfl, v, rfl, e2_w⟩ := hs
    exact ⟨v, e1_w, e2_w⟩
  refine tr_of gm_203 (B := fun r h' => h' = h ∧ ∃ v, r = [v] ∧ (v = 0 ∨ v = 1) ∧ (v ≠ 0 ↔ tkN h)) ?_
  show wS _ _ K bb_203 [182] h _
  generalize evF xs L ck K cW g_M n = F at c201 ⊢
  unfold bb_203
  simp only [wf_4, wf_40, wf_5, wf_50, wf_6, wl_1, wt_1, wu_1, wa_1, wl_4, wt_4, wu_4, wa_4, wl_5, wt_5, wu_5, wa_5, wl_6, wt_6, wu_6, wa_6, wl_9, wt_9, wu_9, wa_9, wl_10, wt_10, wu_10, wa_10, wl_11, wt_11, wu_11, wa_11, wl_13, wt_13, wu_13, wa_13, wl_14, wt_14, wu_14, wa_14, wl_15, wt_15, wu_15, wa_15, wl_16, wt_16, wu_16, wa_16, wl_17, wt_17, wu_17, wa_17, wl_20, wt_20, wu_20, wa_20, wl_21, wt_21, wu_21, wa_21, wl_22, wt_22, wu_22, wa_22, wl_23, wt_23, wu_23, wa_23, wl_24, wt_24, wu_24, wa_24, wl_26, wt_26, wu_26, wa_26, wl_27, wt_27, wu_27, wa_27, wl_28, wt_28, wu_28, wa_28, we_1, we_3, we_10, we_14, we_15, we_16, we_17, we_18, we_20, we_21, we_22, we_24, we_25, we_26, we_27, we_28, we_30, we_31, we_32, wc_20, wc_21, wc_22, wc_24, wc_25, wc_26, wc_27, wc_3, wc_4, wc_7, wc_28, wc_32, ws_1, ws_2, ws_3, ws_4, ws_9, ws_10, ws_11, ws_14, ws_15, ws_16, ws_27, ws_17, ws_20, ws_28, kc_0, kc_1, kn_1, kc_2, kn_2, kc_3, kc_4, kc_5, kc_6, kc_7, kc_8, kc_9, kc_10, kc_12, kc_13, kc_14, kc_16, kc_17, kc_18, kc_19, kc_20, kc_21, kc_22, kc_24, kc_28, kc_30, kc_32, kc_37, kc_40, kc_41, kc_42, kc_43, kc_45, kc_48, kc_56, kc_57, kc_59, kc_60, kc_61, kc_64, kc_73, kc_78, kc_91, kc_95, kc_96, kc_97, kc_98, kc_99, kc_100, kc_112, kc_122, kc_125, kc_126, kc_150, kc_162, kc_163, kc_168, kc_186, kc_190, kc_200, kc_250, kc_255, kc_355, kc_356, kc_404, kc_405, kc_429, kc_573, kc_999, kc_1000, kc_1002, kc_1100, kc_1891, kc_2200, kc_4719, kc_4869, kc_4881, kc_5148, kc_9999, kn_9999, kc_10000, kc_12345, kc_19741, kc_25433, kc_65536, kc_320403, kc_628412, kc_629093, kc_660401, kc_679843, kc_918640, kc_979410, kc_1178088, kc_6232410, kc_24644941, kc_36238189, kc_38270444, kc_392531318, kc_425693491, kc_1103515245, kc_1342154595, kc_2147483648, kc_42328242873, kc_891704255789, kc_1722105685577, kc_1858726030364, ct_0, ct_1, ct_2, ct_3, ct_4, ct_5, cf_0, cf_1, cf_2, cf_3, cf_4, cf_5, w_ty6, w_ty7, m_sv, m_z0, m_hd, m_g0, m_gs, m_s0, m_ss, m_ap, m_an, forall_const, true_and, and_true, ne_eq, not_true_eq_false, not_false_eq_true, false_implies, true_implies, implies_true, eq_self, reduceCtorEq, Nat.reduceDiv, Nat.reduceMod, Int.reduceToNat, or_true, true_or, or_false, false_or, or_self, m_it, m_if, m_c1, m_01, m_02, m_03, m_04, m_10, m_12, m_13, m_14, m_20, m_21, m_23, m_24, m_30, m_31, m_32, m_34, m_40, m_41, m_42, m_43]
  obtain ⟨v, e1_w, e2_w, e3_w, e4_w, e5_w⟩ := c201 h 0 20 hp (by decide) (by decide) (by decide)
  obtain ⟨q, ⟨p1_w, p2_w, p3_w, p4_w, p5_w, p6_w, p7_w⟩, d⟩ := hp
  have ba_w : 0 ≤ h 182 7 ∧ h 182 7 < 1002 := ⟨p2_w, by omega⟩
  have no : ¬tkN h → ∃ v, [(0 : Int)] = [v] ∧ (v = 0 ∨ v = 1) ∧ (¬v = 0 ↔ tkN h) := fun k => ⟨0, rfl, Or.inl rfl, fun k2 => absurd rfl k2, fun k2 => absurd k2 k⟩
  refine ⟨fun k1_w => ⟨ba_w, fun k2 => ⟨[v], h, e1_w, fun k3 => ⟨rfl, 1, rfl, Or.inr rfl, fun _ => ⟨k1_w, k2, fun k a0_w a1_w => ?_⟩, fun _ => by decide⟩, fun k3 => ⟨rfl, no (fun z => ?_)⟩⟩, fun k2 => no (fun z => k2 z.2.1)⟩, fun k1_w => no (fun z => k1_w z.1)⟩
  · have k3 : v < 0 := k3
    have h5 := e5_w (by omega) k a0_w a1_w
    rwa [Int.zero_add] at h5
  · have k3 : 0 ≤ v := k3
    have h4 := e4_w k3
    rw [Int.zero_add] at h4
    exact z.2.2 v k3 h4.1 h4.2
def B204 (h : XH) (a m : Int) (r : List Int) (h' : XH) : Prop := h' = h ∧ ∃ v, r = [v] ∧ -1 ≤ v ∧ (0 ≤ v → v < m ∧ h 190 (a + v).toNat = h 186 (h 182 7).toNat) ∧ (v = -1 → ∀ k, 0 ≤ k → k < m → h 190 (a + k).toNat ≠ h 186 (h 182 7).toNat)
theorem g_204 (hK_w : 4294967300 ≤ K) : G204 P N g (evF xs L ck K cW g_M (n + 1)) := fun h a m hp a0_w m0_w am => by
  suffices hs : ∃ r h', evF xs L ck K cW g_M (n + 1) 204 [182, a, m] ((a_g3, g), h) = some (1, r, ((a_g3, g), h')) ∧ B204 h a m r h' by
    obtain ⟨r, h', e1_w, rfl, v, rfl, e2_w⟩ := hs
    exact ⟨v, e1_w, e2_w⟩
  refine tr_of gm_204 ?_
  show wS _ _ K bb_204 [182, a, m, 0, 0] h _
  generalize evF xs L ck K cW g_M n = F
  unfold bb_204
  simp only [wf_4, wf_40, wf_5, wf_50, wf_6, wl_1, wt_1, wu_1, wa_1, wl_4, wt_4, wu_4, wa_4, wl_5, wt_5, wu_5, wa_5, wl_6, wt_6, wu_6, wa_6, wl_9, wt_9, wu_9, wa_9, wl_10, wt_10, wu_10, wa_10, wl_11, wt_11, wu_11, wa_11, wl_13, wt_13, wu_13, wa_13, wl_14, wt_14, wu_14, wa_14, wl_15, wt_15, wu_15, wa_15, wl_16, wt_16, wu_16, wa_16, wl_17, wt_17, wu_17, wa_17, wl_20, wt_20, wu_20, wa_20, wl_21, wt_21, wu_21, wa_21, wl_22, wt_22, wu_22, wa_22, wl_23, wt_23, wu_23, wa_23, wl_24, wt_24, wu_24, wa_24, wl_26, wt_26, wu_26, wa_26, wl_27, wt_27, wu_27, wa_27, wl_28, wt_28, wu_28, wa_28, we_1, we_3, we_10, we_14, we_15, we_16, we_17, we_18, we_20, we_21, we_22, we_24, we_25, we_26, we_27, we_28, we_30, we_31, we_32, wc_20, wc_21, wc_22, wc_24, wc_25, wc_26, wc_27, wc_3, wc_4, wc_7, wc_28, wc_32, ws_1, ws_2, ws_3, ws_4, ws_9, ws_10, ws_11, ws_14, ws_15, ws_16, ws_27, ws_17, ws_20, ws_28, kc_0, kc_1, kn_1, kc_2, kn_2, kc_3, kc_4, kc_5, kc_6, kc_7, kc_8, kc_9, kc_10, kc_12, kc_13, kc_14, kc_16, kc_17, kc_18, kc_19, kc_20, kc_21, kc_22, kc_24, kc_28, kc_30, kc_32, kc_37, kc_40, kc_41, kc_42, kc_43, kc_45, kc_48, kc_56, kc_57, kc_59, kc_60, kc_61, kc_64, kc_73, kc_78, kc_91, kc_95, kc_96, kc_97, kc_98, kc_99, kc_100, kc_112, kc_122, kc_125, kc_126, kc_150, kc_162, kc_163, kc_168, kc_186, kc_190, kc_200, kc_250, kc_255, kc_355, kc_356, kc_404, kc_405, kc_429, kc_573, kc_999, kc_1000, kc_1002, kc_1100, kc_1891, kc_2200, kc_4719, kc_4869, kc_4881, kc_5148, kc_9999, kn_9999, kc_10000, kc_12345, kc_19741, kc_25433, kc_65536, kc_320403, kc_628412, kc_629093, kc_660401, kc_679843, kc_918640, kc_979410, kc_1178088, kc_6232410, kc_24644941, kc_36238189, kc_38270444, kc_392531318, kc_425693491, kc_1103515245, kc_1342154595, kc_2147483648, kc_42328242873, kc_891704255789, kc_1722105685577, kc_1858726030364, ct_0, ct_1, ct_2, ct_3, ct_4, ct_5, cf_0, cf_1, cf_2, cf_3, cf_4, cf_5, w_ty6, w_ty7, m_sv, m_z0, m_hd, m_g0, m_gs, m_s0, m_ss, m_ap, m_an, forall_const, true_and, and_true, ne_eq, not_true_eq_false, not_false_eq_true, false_implies, true_implies, implies_true, eq_self, reduceCtorEq, Nat.reduceDiv, Nat.reduceMod, Int.reduceToNat, or_true, true_or, or_false, false_or, or_self, m_it, m_if, m_c1, m_01, m_02, m_03, m_04, m_10, m_12, m_13, m_14, m_20, m_21, m_23, m_24, m_30, m_31, m_32, m_34, m_40, m_41, m_42, m_43]
  obtain ⟨q, ⟨p1_w, p2_w, p3_w, p4_w, p5_w, p6_w, p7_w⟩, d⟩ := hp
  have ba_w : 0 ≤ h 182 7 ∧ h 182 7 < 1002 := ⟨p2_w, by omega⟩
  refine w_lp (fun en h' => ∃ v k : Int, en = [182, a, m, v, k] ∧ 0 ≤ k ∧ k ≤ m ∧ -1 ≤ v ∧ (0 ≤ v → v < k ∧ h 190 (a + v).toNat = h 186 (h 182 7).toNat) ∧ (v = -1 → ∀ i, 0 ≤ i → i < k → h 190 (a + i).toNat ≠ h 186 (h 182 7).toNat) ∧ h' = h) (fun en _ => (m - en.getD 4 0).toNat) ⟨-1, 0, rfl, by omega, by omega, by omega, fun z => absurd z (by decide), fun _ i i0 i1_w => by omega, rfl⟩ ?_
  rintro en h1 ⟨v, k, rfl, k0_w, k1_w, v0_w, v1_w, v2, rfl⟩
  refine ⟨?_, ?_⟩
  · show (m - k).toNat < K
    omega
  simp only [wf_4, wf_40, wf_5, wf_50, wf_6, wl_1, wt_1, wu_1, wa_1, wl_4, wt_4, wu_4, wa_4, wl_5, wt_5, wu_5, wa_5, wl_6, wt_6, wu_6, wa_6, wl_9, wt_9, wu_9, wa_9, wl_10, wt_10, wu_10, wa_10, wl_11, wt_11, wu_11, wa_11, wl_13, wt_13, wu_13, wa_13, wl_14, wt_14, wu_14, wa_14, wl_15, wt_15, wu_15, wa_15, wl_16, wt_16, wu_16, wa_16, wl_17, wt_17, wu_17, wa_17, wl_20, wt_20, wu_20, wa_20, wl_21, wt_21, wu_21, wa_21, wl_22, wt_22, wu_22, wa_22, wl_23, wt_23, wu_23, wa_23, wl_24, wt_24, wu_24, wa_24, wl_26, wt_26, wu_26, wa_26, wl_27, wt_27, wu_27, wa_27, wl_28, wt_28, wu_28, wa_28, we_1, we_3, we_10, we_14, we_15, we_16, we_17, we_18, we_20, we_21, we_22, we_24, we_25, we_26, we_27, we_28, we_30, we_31, we_32, wc_20, wc_21, wc_22, wc_24, wc_25, wc_26, wc_27, wc_3, wc_4, wc_7, wc_28, wc_32, ws_1, ws_2, ws_3, ws_4, ws_9, ws_10, ws_11, ws_14, ws_15, ws_16, ws_27, ws_17, ws_20, ws_28, kc_0, kc_1, kn_1, kc_2, kn_2, kc_3, kc_4, kc_5, kc_6, kc_7, kc_8, kc_9, kc_10, kc_12, kc_13, kc_14, kc_16, kc_17, kc_18, kc_19, kc_20, kc_21, kc_22, kc_24, kc_28, kc_30, kc_32, kc_37, kc_40, kc_41, kc_42, kc_43, kc_45, kc_48, kc_56, kc_57, kc_59, kc_60, kc_61, kc_64, kc_73, kc_78, kc_91, kc_95, kc_96, kc_97, kc_98, kc_99, kc_100, kc_112, kc_122, kc_125, kc_126, kc_150, kc_162, kc_163, kc_168, kc_186, kc_190, kc_200, kc_250, kc_255, kc_355, kc_356, kc_404, kc_405, kc_429, kc_573, kc_999, kc_1000, kc_1002, kc_1100, kc_1891, kc_2200, kc_4719, kc_4869, kc_4881, kc_5148, kc_9999, kn_9999, kc_10000, kc_12345, kc_19741, kc_25433, kc_65536, kc_320403, kc_628412, kc_629093, kc_660401, kc_679843, kc_918640, kc_979410, kc_1178088, kc_6232410, kc_24644941, kc_36238189, kc_38270444, kc_392531318, kc_425693491, kc_1103515245, kc_1342154595, kc_2147483648, kc_42328242873, kc_891704255789, kc_1722105685577, kc_1858726030364, ct_0, ct_1, ct_2, ct_3, ct_4, ct_5, cf_0, cf_1, cf_2, cf_3, cf_4, cf_5, w_ty6, w_ty7, m_sv, m_z0, m_hd, m_g0, m_gs, m_s0, m_ss, m_ap, m_an, forall_const, true_and, and_true, ne_eq, not_true_eq_false, not_false_eq_true, false_implies, true_implies, implies_true, eq_self, reduceCtorEq, Nat.reduceDiv, Nat.reduceMod, Int.reduceToNat, or_true, true_or, or_false, false_or, or_self, m_it, m_if, m_c1, m_01, m_02, m_03, m_04, m_10, m_12, m_13, m_14, m_20, m_21, m_23, m_24, m_30, m_31, m_32, m_34, m_40, m_41, m_42, m_43]
  refine ⟨fun hk => ?_, fun hk => ⟨rfl, v, rfl, v0_w, fun z => ?_, fun z i i0 i1_w => v2 z i i0 (by omega)⟩⟩
  · rw [jadd (x := a) (y := k) (by omega) (by omega), jinc (by omega) (by omega)]
    refine ⟨⟨by omega, by omega⟩, ba_w, fun z => ⟨⟨k, k + 1, rfl, by omega, by omega, by omega, fun _ => ⟨by omega, z⟩, fun z2 => by omega⟩, ?_⟩, fun z => ⟨⟨v, k + 1, rfl, by omega, by omega, v0_w, fun z2 => ⟨by have := (v1_w z2).1; omega, (v1_w z2).2⟩, fun z2 i i0 i1_w => ?_⟩, ?_⟩⟩
    · show (m - (k + 1)).toNat < (m - k).toNat
      omega
    · by_cases e : i = k
      · subst e
        exact z
      · exact v2 z2 i i0 (by omega)
    · show (m - (k + 1)).toNat < (m - k).toNat
      omega
  · have := v1_w z
    exact ⟨by omega, this.2⟩
def B205 (N : Nat) (h : XH) (a m : Int) (r : List Int) (h' : XH) : Prop := ∃ v, r = [v] ∧ PA N h h' ∧ InI v ∧ (h' 182 8 = 0 → 0 ≤ v ∧ v < m ∧ h' = atp h ∧ tkN h) ∧ (h' 182 8 ≠ 0 → v = 0 ∧ h' 182 7 = h 182 7)
theorem g_205 (c203 : G203 P N g (evF xs L ck K cW g_M n)) (c204 : G204 P N g (evF xs L ck K cW g_M n)) (c191 : G191 P N g (evF xs L ck K cW g_M n)) : G205 P N g (evF xs L ck K cW g_M (n + 1)) := fun h a m hp a0_w m0_w am => by
  suffices hs : ∃ r h', evF xs L ck K cW g_M (n + 1) 205 [182, a, m] ((a_g3, g), h) = some (1, r, ((a_g3, g), h')) ∧ B205 N h a m r h' by
    obtain ⟨r, h', e1_w, v, rfl, e2_w⟩ := hs
    exact ⟨v, h', e1_w, e2_w⟩
  refine tr_of gm_205 ?_
  show wS _ _ K bb_205 [182, a, m, 0] h _
  generalize evF xs L ck K cW g_M n = F at c203 c204 c191 ⊢
  unfold bb_205
  simp only [wf_4, wf_40, wf_5, wf_50, wf_6, wl_1, wt_1, wu_1, wa_1, wl_4, wt_4, wu_4, wa_4, wl_5, wt_5, wu_5, wa_5, wl_6, wt_6, wu_6, wa_6, wl_9, wt_9, wu_9, wa_9, wl_10, wt_10, wu_10, wa_10, wl_11, wt_11, wu_11, wa_11, wl_13, wt_13, wu_13, wa_13, wl_14, wt_14, wu_14, wa_14, wl_15, wt_15, wu_15, wa_15, wl_16, wt_16, wu_16, wa_16, wl_17, wt_17, wu_17, wa_17, wl_20, wt_20, wu_20, wa_20, wl_21, wt_21, wu_21, wa_21, wl_22, wt_22, wu_22, wa_22, wl_23, wt_23, wu_23, wa_23, wl_24, wt_24, wu_24, wa_24, wl_26, wt_26, wu_26, wa_26, wl_27, wt_27, wu_27, wa_27, wl_28, wt_28, wu_28, wa_28, we_1, we_3, we_10, we_14, we_15, we_16, we_17, we_18, we_20, we_21, we_22, we_24, we_25, we_26, we_27, we_28, we_30, we_31, we_32, wc_20, wc_21, wc_22, wc_24, wc_25, wc_26, wc_27, wc_3, wc_4, wc_7, wc_28, wc_32, ws_1, ws_2, ws_3, ws_4, ws_9, ws_10, ws_11, ws_14, ws_15, ws_16, ws_27, ws_17, ws_20, ws_28, kc_0, kc_1, kn_1, kc_2, kn_2, kc_3, kc_4, kc_5, kc_6, kc_7, kc_8, kc_9, kc_10, kc_12, kc_13, kc_14, kc_16, kc_17, kc_18, kc_19, kc_20, kc_21, kc_22, kc_24, kc_28, kc_30, kc_32, kc_37, kc_40, kc_41, kc_42, kc_43, kc_45, kc_48, kc_56, kc_57, kc_59, kc_60, kc_61, kc_64, kc_73, kc_78, kc_91, kc_95, kc_96, kc_97, kc_98, kc_99, kc_100, kc_112, kc_122, kc_125, kc_126, kc_150, kc_162, kc_163, kc_168, kc_186, kc_190, kc_200, kc_250, kc_255, kc_355, kc_356, kc_404, kc_405, kc_429, kc_573, kc_999, kc_1000, kc_1002, kc_1100, kc_1891, kc_2200, kc_4719, kc_4869, kc_4881, kc_5148, kc_9999, kn_9999, kc_10000, kc_12345, kc_19741, kc_25433, kc_65536, kc_320403, kc_628412, kc_629093, kc_660401, kc_679843, kc_918640, kc_979410, kc_1178088, kc_6232410, kc_24644941, kc_36238189, kc_38270444, kc_392531318, kc_425693491, kc_1103515245, kc_1342154595, kc_2147483648, kc_42328242873, kc_891704255789, kc_1722105685577, kc_1858726030364, ct_0, ct_1, ct_2, ct_3, ct_4, ct_5, cf_0, cf_1, cf_2, cf_3, cf_4, cf_5, w_ty6, w_ty7, m_sv, m_z0, m_hd, m_g0, m_gs, m_s0, m_ss, m_ap, m_an, forall_const, true_and, and_true, ne_eq, not_true_eq_false, not_false_eq_true, false_implies, true_implies, implies_true, eq_self, reduceCtorEq, Nat.reduceDiv, Nat.reduceMod, Int.reduceToNat, or_true, true_or, or_false, false_or, or_self, m_it, m_if, m_c1, m_01, m_02, m_03, m_04, m_10, m_12, m_13, m_14, m_20, m_21, m_23, m_24, m_30, m_31, m_32, m_34, m_40, m_41, m_42, m_43]
  have rf := PA.rf hp
  have p1_w := hp.2.1.1
  obtain ⟨w, e1_w, e2_w, e3_w⟩ := c203 h hp
  obtain ⟨v, d1_w, d2_w, d3_w, d4_w⟩ := c204 h a m hp a0_w m0_w am
  obtain ⟨h1, f1_w, f2_w, f3_w, f4_w, -⟩ := c191 h 1 hp (by decide) (by decide)
  obtain ⟨h2, x1_w, x2_w, x3, x4_w, -⟩ := c191 h 2 hp (by decide) (by decide)
  have f5_w := f2_w.2.1
  have x5_w := x2_w.2.1
  have stop1 : ∀ x, Fin7 (B205 N h a m) h1 x := fun x => fin7_f (by omega) (by rw [f3_w]; exact jat0 hp) ⟨0, rfl, f2_w, in_0, fun z => absurd z f4_w, fun _ => ⟨rfl, f3_w⟩⟩
  have stop2 : ∀ x, Fin7 (B205 N h a m) h2 x := fun x => fin7_f (by omega) (by rw [x3]; exact jat0 hp) ⟨0, rfl, x2_w, in_0, fun z => absurd z x4_w, fun _ => ⟨rfl, x3⟩⟩
  have idle_w : h 182 8 ≠ 0 → ∀ x, Fin7 (B205 N h a m) h x := fun z x => fin7_f (by omega) (jat0 hp) ⟨0, rfl, rf, in_0, fun z2 => absurd z2 z, fun _ => ⟨rfl, rfl⟩⟩
  refine ⟨fun k1_w => ⟨[w], h, e1_w, fun k2 => ⟨fun z => by omega, fun _ => ⟨[v], h, d1_w, fun _ => ⟨fun _ => ⟨[], h2, x1_w, stop2 _⟩, fun k3 => ?_⟩, fun z => absurd k1_w z⟩⟩, fun k2 => ⟨[], h1, f1_w, ⟨fun _ => ⟨fun z => absurd z f4_w, fun _ => stop1 _⟩, fun z => by omega⟩⟩⟩, fun k1_w => ⟨fun _ => ⟨fun z => absurd z k1_w, fun _ => idle_w k1_w _⟩, fun z => by omega⟩⟩
  have k3 : 0 ≤ v := k3
  obtain ⟨g1, g2⟩ := d3_w k3
  exact fin7_o (B := B205 N h a m) k1_w (jat hp) ⟨v, rfl, PA.next hp (by rw [(e3_w.mp k2).2.1]; decide), ⟨by omega, by omega⟩, fun _ => ⟨k3, g1, rfl, e3_w.mp k2⟩, fun z => absurd (atp_8.trans k1_w) z⟩
end PAR4
end
section
/-! ===== the reference's parser: what is_w emitted ===== -/
/-- what an E may_w write_w: codes_w behind_w those that are there_w -/
def PX (N : Nat) (h h' : XH) : Prop := (∀ o k : Nat, (o = 182 → k ≠ 7 ∧ k ≠ 8 ∧ k ≠ 12) → (o = 189 → (k : Int) < 1100 + h 182 12) → h' o k = h o k) ∧ 0 ≤ h' 182 8 ∧ InI (h' 182 8) ∧ (h 182 8 ≠ 0 → h' 182 8 = h 182 8) ∧ h 182 7 ≤ h' 182 7 ∧ h' 182 7 ≤ (N : Int) ∧ h 182 12 ≤ h' 182 12 ∧ h' 182 12 - h 182 12 ≤ h' 182 7 - h 182 7
/-- what was emitted puts one number_w on_w the pile, and needs so many_w places_w -/
def EX (b : Nat) (h h' : XH) : Prop := h' 182 8 = 0 → ∃ l : List Int, Seg (h' 189) (1100 + (h 182 12).toNat) l ∧ h' 182 12 = h 182 12 + l.length ∧ ∀ t, t + b ≤ 63 → htO t l = some (t + 1)
section PAR5
variable {P : Int × Int} {N : Nat} {g : Nat × Nat} {xs : Nat → Int} {L K n : Nat} {ck : Nat → List Nat} {cW : Nat → Nat → Int} {h h' h2 : XH}
theorem CodeOK.up {f f' : Nat → Int} {a : Nat} (hf : ∀ k, k < 1100 → f' k = f k) (hc_w : CodeOK f a) : CodeOK f' a := by
  obtain ⟨l, s1_w, s2_w, s3_w, s4_w⟩ := hc_w
  exact ⟨l, fun k hk => (hf _ (by omega)).trans (s1_w k hk), (hf _ (by omega)).trans s2_w, s3_w, s4_w⟩
theorem htO_app : ∀ {l m : List Int} {t u : Nat}, htO t l = some u → htO t (l ++ m) = htO u m
  | [], m, t, u, h => by cases h; rfl
  | x :: l, m, t, u, h => by
    rw [List.cons_append]
    unfold htO at h
    conv => lhs; unfold htO
    split at h
    · rename_i c1_w
      obtain ⟨c2, h⟩ := j_ifx h
      rw [if_pos c1_w, if_pos c2]
      exact htO_app h
    · rename_i c1_w
      rw [if_neg c1_w]
      split at h
      · rename_i c1_w
        obtain ⟨c2, h⟩ := j_ifx h
        rw [if_pos c1_w, if_pos c2]
        exact htO_app h
      · rename_i c1_w
        rw [if_neg c1_w]
        split at h
        · rename_i c1_w
          obtain ⟨c2, h⟩ := j_ifx h
          rw [if_pos c1_w, if_pos c2]
          exact htO_app h
        · rename_i c1_w
          rw [if_neg c1_w]
          split at h
          · rename_i c1_w
            obtain ⟨c2, h⟩ := j_ifx h
            rw [if_pos c1_w, if_pos c2]
            exact htO_app h
          · cases h
theorem Seg.app {f : Nat → Int} {a : Nat} {l m : List Int} (hl : Seg f a l) (hm_w : Seg f (a + l.length) m) : Seg f a (l ++ m) := fun k hk => by
  rw [List.getD_eq_getElem?_getD]
  by_cases e : k < l.length
  · rw [List.getElem?_append_left e, ← List.getD_eq_getElem?_getD]
    exact hl k e
  · rw [List.getElem?_append_right (by omega), ← List.getD_eq_getElem?_getD]
    have := hm_w (k - l.length) (by rw [List.length_append] at hk; omega)
    rw [← this]
    congr 1
    omega
/-- a code is_w emitted -/
def emt (h : XH) (x : Int) : XH := j_up (j_up h 189 (1100 + (h 182 12).toNat) x) 182 12 (h 182 12 + 1)
theorem emt_QK (hQ : QK P (r_T 0) (RJ P) h) {x : Int} (hx : InI x) (hc_w : 0 ≤ h 182 12 ∧ h 182 12 ≤ 1001) : QK P (r_T 0) (RJ P) (emt h x) := by
  have hH : HT g_fk a_g3 (j_up h 189 (1100 + (h 182 12).toNat) x) := ht_up hQ.1 (by decide) hx
  have hr : (r_A 189).2.2.all (fun r => i_sub iT r.2.2) = true := by decide +kernel
  have q1_w : QK P (r_T 0) (RJ P) (j_up h 189 (1100 + (h 182 12).toNat) x) := by
    refine ⟨hH, fun k => ?_, fun q' hq' => ?_, ?_⟩
    · rw [up_ne (fun z => absurd z.1 (by decide))]
      exact hQ.2.1 k
    · by_cases e : q' = 189
      · subst e
        intro r hr' a b k1_w k2 k3
        by_cases e2_w : (qA (r_T 0) 189).2.1 * b + a = 1100 + (h 182 12).toNat
        · rw [e2_w, up_eq]
          exact IV.sub (List.all_eq_true.mp hr r hr') (IV.top hx)
        · rw [up_ne (fun z => e2_w z.2)]
          exact hQ.2.2.1 189 hq' r hr' a b k1_w k2 k3
      · have e2_w : j_up h 189 (1100 + (h 182 12).toNat) x q' = h q' := funext fun i => up_ne (fun z => e z.1)
        rw [e2_w]
        exact hQ.2.2.1 q' hq'
    · have e1_w : j_up h 189 (1100 + (h 182 12).toNat) x 188 = h 188 := funext fun i => up_ne (fun z => absurd z.1 (by decide))
      have e2_w : j_up h 189 (1100 + (h 182 12).toNat) x 191 = h 191 := funext fun i => up_ne (fun z => absurd z.1 (by decide))
      obtain ⟨j1, j2_w, j3_w⟩ := hQ.2.2.2
      refine ⟨by rw [e1_w]; exact j1, fun z => ?_, by rw [e2_w]; exact j3_w⟩
      rw [e1_w] at z ⊢
      exact (j2_w z).up (fun k hk => up_ne (fun z => by have := z.2; omega))
  have q2_w := (fd_QK q1_w rj_js (k := 12) (v := h 182 12 + 1) (Or.inl rfl) (IV.top ⟨by omega, by omega⟩)).1
  exact q2_w
theorem emt_8 {x : Int} : emt h x 182 8 = h 182 8 := by
  unfold emt
  rw [up_ne (fun z => absurd z.2 (by decide)), up_ne (fun z => absurd z.1 (by decide))]
theorem emt_7 {x : Int} : emt h x 182 7 = h 182 7 := by
  unfold emt
  rw [up_ne (fun z => absurd z.2 (by decide)), up_ne (fun z => absurd z.1 (by decide))]
theorem emt_12 {x : Int} : emt h x 182 12 = h 182 12 + 1 := up_eq
theorem emt_ob {x : Int} {o k : Nat} (h1 : o = 182 → k ≠ 12) (h2 : o = 189 → k ≠ 1100 + (h 182 12).toNat) : emt h x o k = h o k := by
  unfold emt
  rw [up_ne (fun z => h1 z.1 z.2), up_ne (fun z => h2 z.1 z.2)]
theorem PX.tr (a : PX N h h') (b : PX N h' h2) (hc_w : 0 ≤ h 182 12) : PX N h h2 := by
  obtain ⟨a1_w, a2, a3, a4, a5, a6, a7, a8⟩ := a
  obtain ⟨b1, b2, b3, b4, b5, b6, b7, b8⟩ := b
  exact ⟨fun o k e e2_w => (b1 o k e (fun z => by have := e2_w z; omega)).trans (a1_w o k e e2_w), b2, b3, fun e => by rw [b4 (by rw [a4 e]; exact e), a4 e], by omega, b6, by omega, by omega⟩
theorem PA.px (hp : PK P N h) (a : PA N h h') : PX N h h' := by
  obtain ⟨a1_w, a2, a3, a4, a5, a6⟩ := a
  have e := a1_w 182 12 (fun _ => by decide)
  exact ⟨fun o k e _ => a1_w o k (fun z => ⟨(e z).1, (e z).2.1⟩), a2, a3, a4, a5, a6, by omega, by omega⟩
theorem px_e (hp : PK P N h) (a : PX N h h') (hQ : QK P (r_T 0) (RJ P) h') (hc_w : h 182 12 ≤ h 182 7) : PK P N h' := by
  obtain ⟨a1_w, a2, a3, a4, a5, a6, a7, a8⟩ := a
  obtain ⟨q, ⟨p1_w, p2_w, p3_w, p4_w, p5_w, p6_w, p7_w, p8_w⟩, d⟩ := hp
  have e : ∀ q : Nat, q ≠ 182 → q ≠ 189 → h' q = h q := fun q h1 h2 => funext fun k => a1_w q k (fun z => absurd z h1) (fun z => absurd z h2)
  refine ⟨hQ, ⟨a2, by omega, a6, p4_w, ?_, by omega, by omega, fun i hi_w hs => ?_⟩, ?_⟩
  · rw [e 184 (by decide) (by decide)]
    exact p5_w
  · rw [e 184 (by decide) (by decide)] at hs
    rw [e 186 (by decide) (by decide)]
    exact p8_w i hi_w hs
  · unfold DG
    rw [e 188 (by decide) (by decide)]
    exact d
/-- two that are joined by what is_w emitted behind_w them -/
theorem EX.join {h3 : XH} {b1 b2 b : Nat} {x : Int} (hc_w : 0 ≤ h 182 12) (a1_w : EX b1 h h') (a2 : EX b2 h' h2) (px : PX N h' h2) (ph_w : h' 182 8 ≠ 0 → h2 182 8 ≠ 0) (h12 : h 182 12 ≤ h' 182 12) (h3e : h3 = emt h2 x) (hx : 4 ≤ x % 16 ∧ 0 ≤ x ∧ x % 16 ≠ 1 ∧ x % 16 ≠ 2 ∧ x % 16 ≠ 3) (hb1 : b1 ≤ b) (hb2 : b2 + 1 ≤ b) (hb3 : 1 ≤ b) : EX b h h3 := by
  intro h0
  subst h3e
  rw [emt_8] at h0
  obtain ⟨l2, s2_w, n2_w, t2_w⟩ := a2 h0
  obtain ⟨l1, s1_w, n1_w, t1_w⟩ := a1_w (Decidable.byContradiction fun z => ph_w z h0)
  have hn : (h 182 12).toNat + l1.length = (h' 182 12).toNat := by omega
  have hn2 : (h' 182 12).toNat + l2.length = (h2 182 12).toNat := by omega
  refine ⟨l1 ++ (l2 ++ [x]), Seg.app (fun k hk => ?_) (Seg.app (fun k hk => ?_) (fun k hk => ?_)), ?_, fun t ht => ?_⟩
  · rw [emt_ob (fun z => absurd z (by decide)) (fun _ => by omega), px.1 189 _ (fun z => absurd z (by decide)) (fun _ => by omega)]
    exact s1_w k hk
  · rw [emt_ob (fun z => absurd z (by decide)) (fun _ => by omega), show 1100 + (h 182 12).toNat + l1.length + k = 1100 + (h' 182 12).toNat + k by omega]
    exact s2_w k hk
  · have hk0 : k = 0 := by simpa using hk
    subst hk0
    rw [show 1100 + (h 182 12).toNat + l1.length + l2.length + 0 = 1100 + (h2 182 12).toNat by omega]
    unfold emt
    rw [up_ne (fun z => absurd z.1 (by decide)), up_eq]
    rfl
  · rw [emt_12, List.length_append, List.length_append]
    simp only [List.length_cons, List.length_nil]
    omega
  · rw [htO_app (t1_w t (by omega)), htO_app (t2_w (t + 1) (by omega))]
    unfold htO
    rw [if_neg (fun z => hx.2.2.1 z.1), if_neg (fun z => hx.2.2.2.1 z.1), if_neg (fun z => hx.2.2.2.2 z.1), if_pos ⟨hx.1, hx.2.1⟩, if_pos (by omega)]
    rfl
def G216 (P : Int × Int) (N : Nat) (g : Nat × Nat) (F : XP) : Prop := ∀ (h : XH) (c a : Int), 0 ≤ h 182 12 → h 182 12 ≤ 1001 → 0 ≤ c → c ≤ 15 → 0 ≤ a → a ≤ 9999 → F 216 [182, c, a] ((a_g3, g), h) = some (1, [], ((a_g3, g), emt h (c + 16 * a)))
theorem g_216 : G216 P N g (evF xs L ck K cW g_M (n + 1)) := fun h c a h0 h1 c0 c1_w a0_w a1_w => by
  suffices hs : ∃ r h', evF xs L ck K cW g_M (n + 1) 216 [182, c, a] ((a_g3, g), h) = some (1, r, ((a_g3, g), h')) ∧ r = [] ∧ h' = emt h (c + 16 * a) by
    obtain ⟨r, h', e1_w, rfl, rfl⟩ := hs
    exact e1_w
  refine tr_of gm_216 (B := fun r h' => r = [] ∧ h' = emt h (c + 16 * a)) ?_
  show wS _ _ K bb_216 [182, c, a] h _
  generalize evF xs L ck K cW g_M n = F
  unfold bb_216
  simp only [wf_4, wf_40, wf_5, wf_50, wf_6, wl_1, wt_1, wu_1, wa_1, wl_4, wt_4, wu_4, wa_4, wl_5, wt_5, wu_5, wa_5, wl_6, wt_6, wu_6, wa_6, wl_9, wt_9, wu_9, wa_9, wl_10, wt_10, wu_10, wa_10, wl_11, wt_11, wu_11, wa_11, wl_13, wt_13, wu_13, wa_13, wl_14, wt_14, wu_14, wa_14, wl_15, wt_15, wu_15, wa_15, wl_16, wt_16, wu_16, wa_16, wl_17, wt_17, wu_17, wa_17, wl_20, wt_20, wu_20, wa_20, wl_21, wt_21, wu_21, wa_21, wl_22, wt_22, wu_22, wa_22, wl_23, wt_23, wu_23, wa_23, wl_24, wt_24, wu_24, wa_24, wl_26, wt_26, wu_26, wa_26, wl_27, wt_27, wu_27, wa_27, wl_28, wt_28, wu_28, wa_28, we_1, we_3, we_10, we_14, we_15, we_16, we_17, we_18, we_20, we_21, we_22, we_24, we_25, we_26, we_27, we_28, we_30, we_31, we_32, wc_20, wc_21, wc_22, wc_24, wc_25, wc_26, wc_27, wc_3, wc_4, wc_7, wc_28, wc_32, ws_1, ws_2, ws_3, ws_4, ws_9, ws_10, ws_11, ws_14, ws_15, ws_16, ws_27, ws_17, ws_20, ws_28, kc_0, kc_1, kn_1, kc_2, kn_2, kc_3, kc_4, kc_5, kc_6, kc_7, kc_8, kc_9, kc_10, kc_12, kc_13, kc_14, kc_16, kc_17, kc_18, kc_19, kc_20, kc_21, kc_22, kc_24, kc_28, kc_30, kc_32, kc_37, kc_40, kc_41, kc_42, kc_43, kc_45, kc_48, kc_56, kc_57, kc_59, kc_60, kc_61, kc_64, kc_73, kc_78, kc_91, kc_95, kc_96, kc_97, kc_98, kc_99, kc_100, kc_112, kc_122, kc_125, kc_126, kc_150, kc_162, kc_163, kc_168, kc_186, kc_190, kc_200, kc_250, kc_255, kc_355, kc_356, kc_404, kc_405, kc_429, kc_573, kc_999, kc_1000, kc_1002, kc_1100, kc_1891, kc_2200, kc_4719, kc_4869, kc_4881, kc_5148, kc_9999, kn_9999, kc_10000, kc_12345, kc_19741, kc_25433, kc_65536, kc_320403, kc_628412, kc_629093, kc_660401, kc_679843, kc_918640, kc_979410, kc_1178088, kc_6232410, kc_24644941, kc_36238189, kc_38270444, kc_392531318, kc_425693491, kc_1103515245, kc_1342154595, kc_2147483648, kc_42328242873, kc_891704255789, kc_1722105685577, kc_1858726030364, ct_0, ct_1, ct_2, ct_3, ct_4, ct_5, cf_0, cf_1, cf_2, cf_3, cf_4, cf_5, w_ty6, w_ty7, m_sv, m_z0, m_hd, m_g0, m_gs, m_s0, m_ss, m_ap, m_an, forall_const, true_and, and_true, ne_eq, not_true_eq_false, not_false_eq_true, false_implies, true_implies, implies_true, eq_self, reduceCtorEq, Nat.reduceDiv, Nat.reduceMod, Int.reduceToNat, or_true, true_or, or_false, false_or, or_self, m_it, m_if, m_c1, m_01, m_02, m_03, m_04, m_10, m_12, m_13, m_14, m_20, m_21, m_23, m_24, m_30, m_31, m_32, m_34, m_40, m_41, m_42, m_43]
  rw [jmul (x := 16) (y := a) (by omega) (by omega), jadd (x := c) (by omega) (by omega), jadd (x := 1100) (by omega) (by omega)]
  have e1_w : (1100 + h 182 12).toNat = 1100 + (h 182 12).toNat := by omega
  rw [e1_w, up_ne (fun z => absurd z.1 (by decide)), jadd (x := h 182 12) (by omega) (by omega)]
  exact ⟨⟨by omega, by omega⟩, rfl⟩
end PAR5
end
section
/-! ===== the reference's parser: an E ===== -/
def GE (f b : Nat) (d : Int) (P : Int × Int) (N : Nat) (g : Nat × Nat) (F : XP) : Prop := ∀ (h : XH), PK P N h → h 182 12 ≤ h 182 7 → ∃ h', F f [182, d] ((a_g3, g), h) = some (1, [], ((a_g3, g), h')) ∧ QK P (r_T 0) (RJ P) h' ∧ PX N h h' ∧ EX b h h'
section PAR6
variable {P : Int × Int} {N : Nat} {g : Nat × Nat} {xs : Nat → Int} {L K n : Nat} {ck : Nat → List Nat} {cW : Nat → Nat → Int} {h h1 h2 : XH} {F : XP}
theorem ex_atp {b : Nat} (a : EX b (atp h) h2) : EX b h h2 := fun h0 => by
  have e : atp h 182 12 = h 182 12 := up_ne (fun z => absurd z.2 (by decide))
  have k := a h0
  rw [e] at k
  exact k
theorem EX.mono {b c : Nat} (a : EX b h h2) (hb_w : b ≤ c) : EX c h h2 := fun h0 => by
  obtain ⟨l, s1_w, s2_w, s3_w⟩ := a h0
  exact ⟨l, s1_w, s2_w, fun t ht => s3_w t (by omega)⟩
theorem stepE (hp : PK P N h1) (hc_w : h1 182 12 ≤ h1 182 7) (ht : h1 184 (h1 182 7).toNat ≠ 0) (p2_w : PX N (atp h1) h2) (q : QK P (r_T 0) (RJ P) h2) {x : Int} (hx : InI x) : QK P (r_T 0) (RJ P) (emt h2 x) ∧ PX N h1 (emt h2 x) ∧ h1 182 7 < emt h2 x 182 7 := by
  have pn := PA.next hp ht
  have pxa := PA.px hp pn
  obtain ⟨_, ⟨t1_w, t2_w, t3_w, t4_w, t5_w, t6, t7, t8⟩, _⟩ := hp
  have e12_w : atp h1 182 12 = h1 182 12 := up_ne (fun z => absurd z.2 (by decide))
  have e7_w : atp h1 182 7 = h1 182 7 + 1 := up_eq
  have e8 : atp h1 182 8 = h1 182 8 := atp_8
  obtain ⟨a1_w, a2, a3, a4, a5, a6, a7, a8⟩ := p2_w
  rw [e12_w] at a7 a8
  rw [e7_w] at a5 a8
  rw [e8] at a4
  refine ⟨emt_QK q hx ⟨by omega, by omega⟩, ⟨fun o k k1_w k2 => ?_, ?_, ?_, fun z => ?_, ?_, ?_, ?_, ?_⟩, ?_⟩
  · rw [emt_ob (fun z => (k1_w z).2.2) (fun z => by have := k2 z; omega), a1_w o k k1_w (fun z => by rw [e12_w]; exact k2 z)]
    exact up_ne (fun z => (k1_w z.1).1 z.2)
  · rw [emt_8]
    exact a2
  · rw [emt_8]
    exact a3
  · rw [emt_8]
    exact a4 z
  · rw [emt_7]
    omega
  · rw [emt_7]
    exact a6
  · rw [emt_12]
    omega
  · rw [emt_12, emt_7]
    omega
  · rw [emt_7]
    omega
/-- a sign, what stands behind_w it, and the code of both_w -/
theorem binE {f b b2 : Nat} {d : Int} (c216 : G216 P N g F) (ce : GE f b2 d P N g F) (hp : PK P N h) (hc_w : h 182 12 ≤ h 182 7) (q1_w : QK P (r_T 0) (RJ P) h1) (px1 : PX N h h1) (e1_w : EX b h h1) (ht : h1 184 (h1 182 7).toNat ≠ 0) (hb_w : b2 + 1 ≤ b) : ∃ h2, F f [182, d] ((a_g3, g), atp h1) = some (1, [], ((a_g3, g), h2)) ∧ ∀ x : Int, 4 ≤ x → x ≤ 10 → F 216 [182, x, 0] ((a_g3, g), h2) = some (1, [], ((a_g3, g), emt h2 x)) ∧ QK P (r_T 0) (RJ P) (emt h2 x) ∧ PX N h (emt h2 x) ∧ EX b h (emt h2 x) ∧ h1 182 7 < emt h2 x 182 7 := by
  have hp1 := px_e hp px1 q1_w hc_w
  have c0 : 0 ≤ h 182 12 := hp.2.1.2.2.2.2.2.1
  have b7 := px1.2.2.2.2.2.2.1
  have b8 := px1.2.2.2.2.2.2.2
  have hc1 : h1 182 12 ≤ h1 182 7 := by omega
  have pn := PA.next hp1 ht
  have e12_w : atp h1 182 12 = h1 182 12 := up_ne (fun z => absurd z.2 (by decide))
  have e7_w : atp h1 182 7 = h1 182 7 + 1 := up_eq
  obtain ⟨h2, f1_w, q2_w, p2_w, x2_w⟩ := ce (atp h1) (hp1.pa pn) (by rw [e12_w, e7_w]; omega)
  have pxa := (PA.px hp1 pn).tr p2_w (by omega)
  have d7_w := p2_w.2.2.2.2.2.2.1
  have d8_w := p2_w.2.2.2.2.2.2.2
  have d6_w := p2_w.2.2.2.2.2.1
  have n1_w := hp.2.1.2.2.2.1
  rw [e12_w] at d7_w d8_w
  rw [e7_w] at d8_w
  refine ⟨h2, f1_w, fun x x0_w x1_w => ?_⟩
  obtain ⟨s1_w, s2_w, s3_w⟩ := stepE hp1 hc1 ht p2_w q2_w (x := x) ⟨by omega, by omega⟩
  have k := c216 h2 x 0 (by omega) (by omega) (by omega) (by omega) (by decide) (by decide)
  rw [Int.mul_zero, Int.add_zero] at k
  exact ⟨k, s1_w, px1.tr s2_w c0, EX.join (h3 := emt h2 x) c0 e1_w (ex_atp x2_w) pxa (fun z => by rw [pxa.2.2.2.1 z]; exact z) b7 rfl ⟨by omega, by omega, by omega, by omega, by omega⟩ (by omega) hb_w (by omega), s3_w⟩
theorem g_220 {b : Nat} {a : Int} (hK_w : 1001 ≤ K) (c195 : G195 P N g (evF xs L ck K cW g_M n)) (c216 : G216 P N g (evF xs L ck K cW g_M n)) (ce : GE 221 b a P N g (evF xs L ck K cW g_M n)) : GE 220 (b + 1) a P N g (evF xs L ck K cW g_M (n + 1)) := fun h hp hc_w => by
  suffices hs : ∃ r h', evF xs L ck K cW g_M (n + 1) 220 [182, a] ((a_g3, g), h) = some (1, r, ((a_g3, g), h')) ∧ r = [] ∧ QK P (r_T 0) (RJ P) h' ∧ PX N h h' ∧ EX (b + 1) h h' by
    obtain ⟨r, h', e1_w, rfl, e2_w⟩ := hs
    exact ⟨h', e1_w, e2_w⟩
  refine tr_of gm_220 (B := fun r h' => r = [] ∧ QK P (r_T 0) (RJ P) h' ∧ PX N h h' ∧ EX (b + 1) h h') ?_
  show wS _ _ K bb_220 [182, a] h _
  generalize evF xs L ck K cW g_M n = F at c195 c216 ce ⊢
  unfold bb_220
  simp only [wf_4, wf_40, wf_5, wf_50, wf_6, wl_1, wt_1, wu_1, wa_1, wl_4, wt_4, wu_4, wa_4, wl_5, wt_5, wu_5, wa_5, wl_6, wt_6, wu_6, wa_6, wl_9, wt_9, wu_9, wa_9, wl_10, wt_10, wu_10, wa_10, wl_11, wt_11, wu_11, wa_11, wl_13, wt_13, wu_13, wa_13, wl_14, wt_14, wu_14, wa_14, wl_15, wt_15, wu_15, wa_15, wl_16, wt_16, wu_16, wa_16, wl_17, wt_17, wu_17, wa_17, wl_20, wt_20, wu_20, wa_20, wl_21, wt_21, wu_21, wa_21, wl_22, wt_22, wu_22, wa_22, wl_23, wt_23, wu_23, wa_23, wl_24, wt_24, wu_24, wa_24, wl_26, wt_26, wu_26, wa_26, wl_27, wt_27, wu_27, wa_27, wl_28, wt_28, wu_28, wa_28, we_1, we_3, we_10, we_14, we_15, we_16, we_17, we_18, we_20, we_21, we_22, we_24, we_25, we_26, we_27, we_28, we_30, we_31, we_32, wc_20, wc_21, wc_22, wc_24, wc_25, wc_26, wc_27, wc_3, wc_4, wc_7, wc_28, wc_32, ws_1, ws_2, ws_3, ws_4, ws_9, ws_10, ws_11, ws_14, ws_15, ws_16, ws_27, ws_17, ws_20, ws_28, kc_0, kc_1, kn_1, kc_2, kn_2, kc_3, kc_4, kc_5, kc_6, kc_7, kc_8, kc_9, kc_10, kc_12, kc_13, kc_14, kc_16, kc_17, kc_18, kc_19, kc_20, kc_21, kc_22, kc_24, kc_28, kc_30, kc_32, kc_37, kc_40, kc_41, kc_42, kc_43, kc_45, kc_48, kc_56, kc_57, kc_59, kc_60, kc_61, kc_64, kc_73, kc_78, kc_91, kc_95, kc_96, kc_97, kc_98, kc_99, kc_100, kc_112, kc_122, kc_125, kc_126, kc_150, kc_162, kc_163, kc_168, kc_186, kc_190, kc_200, kc_250, kc_255, kc_355, kc_356, kc_404, kc_405, kc_429, kc_573, kc_999, kc_1000, kc_1002, kc_1100, kc_1891, kc_2200, kc_4719, kc_4869, kc_4881, kc_5148, kc_9999, kn_9999, kc_10000, kc_12345, kc_19741, kc_25433, kc_65536, kc_320403, kc_628412, kc_629093, kc_660401, kc_679843, kc_918640, kc_979410, kc_1178088, kc_6232410, kc_24644941, kc_36238189, kc_38270444, kc_392531318, kc_425693491, kc_1103515245, kc_1342154595, kc_2147483648, kc_42328242873, kc_891704255789, kc_1722105685577, kc_1858726030364, ct_0, ct_1, ct_2, ct_3, ct_4, ct_5, cf_0, cf_1, cf_2, cf_3, cf_4, cf_5, w_ty6, w_ty7, m_sv, m_z0, m_hd, m_g0, m_gs, m_s0, m_ss, m_ap, m_an, forall_const, true_and, and_true, ne_eq, not_true_eq_false, not_false_eq_true, false_implies, true_implies, implies_true, eq_self, reduceCtorEq, Nat.reduceDiv, Nat.reduceMod, Int.reduceToNat, or_true, true_or, or_false, false_or, or_self, m_it, m_if, m_c1, m_01, m_02, m_03, m_04, m_10, m_12, m_13, m_14, m_20, m_21, m_23, m_24, m_30, m_31, m_32, m_34, m_40, m_41, m_42, m_43]
  obtain ⟨h1, f1_w, q1_w, p1_w, x1_w⟩ := ce h hp hc_w
  refine ⟨[], h1, f1_w, ?_⟩
  refine w_lp (fun en h' => en = [182, a] ∧ QK P (r_T 0) (RJ P) h' ∧ PX N h h' ∧ EX (b + 1) h h') (fun _ h' => ((N : Int) - h' 182 7).toNat) ⟨rfl, q1_w, p1_w, x1_w.mono (by omega)⟩ ?_
  rintro en h2 ⟨rfl, q2_w, p2_w, x2_w⟩
  have n1_w := hp.2.1.2.2.2.1
  have n2_w := hp.2.1.2.1
  have n3_w := p2_w.2.2.2.2.1
  refine ⟨?_, ?_⟩
  · show ((N : Int) - h2 182 7).toNat < K
    omega
  simp only [wf_4, wf_40, wf_5, wf_50, wf_6, wl_1, wt_1, wu_1, wa_1, wl_4, wt_4, wu_4, wa_4, wl_5, wt_5, wu_5, wa_5, wl_6, wt_6, wu_6, wa_6, wl_9, wt_9, wu_9, wa_9, wl_10, wt_10, wu_10, wa_10, wl_11, wt_11, wu_11, wa_11, wl_13, wt_13, wu_13, wa_13, wl_14, wt_14, wu_14, wa_14, wl_15, wt_15, wu_15, wa_15, wl_16, wt_16, wu_16, wa_16, wl_17, wt_17, wu_17, wa_17, wl_20, wt_20, wu_20, wa_20, wl_21, wt_21, wu_21, wa_21, wl_22, wt_22, wu_22, wa_22, wl_23, wt_23, wu_23, wa_23, wl_24, wt_24, wu_24, wa_24, wl_26, wt_26, wu_26, wa_26, wl_27, wt_27, wu_27, wa_27, wl_28, wt_28, wu_28, wa_28, we_1, we_3, we_10, we_14, we_15, we_16, we_17, we_18, we_20, we_21, we_22, we_24, we_25, we_26, we_27, we_28, we_30, we_31, we_32, wc_20, wc_21, wc_22, wc_24, wc_25, wc_26, wc_27, wc_3, wc_4, wc_7, wc_28, wc_32, ws_1, ws_2, ws_3, ws_4, ws_9, ws_10, ws_11, ws_14, ws_15, ws_16, ws_27, ws_17, ws_20, ws_28, kc_0, kc_1, kn_1, kc_2, kn_2, kc_3, kc_4, kc_5, kc_6, kc_7, kc_8, kc_9, kc_10, kc_12, kc_13, kc_14, kc_16, kc_17, kc_18, kc_19, kc_20, kc_21, kc_22, kc_24, kc_28, kc_30, kc_32, kc_37, kc_40, kc_41, kc_42, kc_43, kc_45, kc_48, kc_56, kc_57, kc_59, kc_60, kc_61, kc_64, kc_73, kc_78, kc_91, kc_95, kc_96, kc_97, kc_98, kc_99, kc_100, kc_112, kc_122, kc_125, kc_126, kc_150, kc_162, kc_163, kc_168, kc_186, kc_190, kc_200, kc_250, kc_255, kc_355, kc_356, kc_404, kc_405, kc_429, kc_573, kc_999, kc_1000, kc_1002, kc_1100, kc_1891, kc_2200, kc_4719, kc_4869, kc_4881, kc_5148, kc_9999, kn_9999, kc_10000, kc_12345, kc_19741, kc_25433, kc_65536, kc_320403, kc_628412, kc_629093, kc_660401, kc_679843, kc_918640, kc_979410, kc_1178088, kc_6232410, kc_24644941, kc_36238189, kc_38270444, kc_392531318, kc_425693491, kc_1103515245, kc_1342154595, kc_2147483648, kc_42328242873, kc_891704255789, kc_1722105685577, kc_1858726030364, ct_0, ct_1, ct_2, ct_3, ct_4, ct_5, cf_0, cf_1, cf_2, cf_3, cf_4, cf_5, w_ty6, w_ty7, m_sv, m_z0, m_hd, m_g0, m_gs, m_s0, m_ss, m_ap, m_an, forall_const, true_and, and_true, ne_eq, not_true_eq_false, not_false_eq_true, false_implies, true_implies, implies_true, eq_self, reduceCtorEq, Nat.reduceDiv, Nat.reduceMod, Int.reduceToNat, or_true, true_or, or_false, false_or, or_self, m_it, m_if, m_c1, m_01, m_02, m_03, m_04, m_10, m_12, m_13, m_14, m_20, m_21, m_23, m_24, m_30, m_31, m_32, m_34, m_40, m_41, m_42, m_43]
  have hp2 := px_e hp p2_w q2_w hc_w
  obtain ⟨v, h3, d1_w, d2_w, d3_w, d4_w⟩ := c195 h2 42 hp2 ⟨by decide, by decide⟩
  refine ⟨[v], h3, d1_w, fun k => ?_, fun k => ?_⟩
  · obtain ⟨t, rfl⟩ := d3_w k
    obtain ⟨h4, z1, z2⟩ := binE c216 ce hp hc_w q2_w p2_w x2_w (by rw [t.2.1]; decide) (Nat.le_refl _)
    obtain ⟨y1, y2, y3, y4, y5⟩ := z2 6 (by decide) (by decide)
    have y6 := y3.2.2.2.2.2.1
    exact ⟨[], h4, z1, [], _, y1, ⟨y2, y3, y4⟩, by omega⟩
  · obtain ⟨t, rfl⟩ := d4_w k
    exact ⟨q2_w, p2_w, x2_w⟩
theorem g_219 {b : Nat} {a : Int} (hK_w : 1001 ≤ K) (c192 : G192 P N g (evF xs L ck K cW g_M n)) (c216 : G216 P N g (evF xs L ck K cW g_M n)) (ce : GE 220 b a P N g (evF xs L ck K cW g_M n)) : GE 219 (b + 1) a P N g (evF xs L ck K cW g_M (n + 1)) := fun h hp hc_w => by
  suffices hs : ∃ r h', evF xs L ck K cW g_M (n + 1) 219 [182, a] ((a_g3, g), h) = some (1, r, ((a_g3, g), h')) ∧ r = [] ∧ QK P (r_T 0) (RJ P) h' ∧ PX N h h' ∧ EX (b + 1) h h' by
    obtain ⟨r, h', e1_w, rfl, e2_w⟩ := hs
    exact ⟨h', e1_w, e2_w⟩
  refine tr_of gm_219 (B := fun r h' => r = [] ∧ QK P (r_T 0) (RJ P) h' ∧ PX N h h' ∧ EX (b + 1) h h') ?_
  show wS _ _ K bb_219 [182, a, 0] h _
  generalize evF xs L ck K cW g_M n = F at c192 c216 ce ⊢
  unfold bb_219
  simp only [wf_4, wf_40, wf_5, wf_50, wf_6, wl_1, wt_1, wu_1, wa_1, wl_4, wt_4, wu_4, wa_4, wl_5, wt_5, wu_5, wa_5, wl_6, wt_6, wu_6, wa_6, wl_9, wt_9, wu_9, wa_9, wl_10, wt_10, wu_10, wa_10, wl_11, wt_11, wu_11, wa_11, wl_13, wt_13, wu_13, wa_13, wl_14, wt_14, wu_14, wa_14, wl_15, wt_15, wu_15, wa_15, wl_16, wt_16, wu_16, wa_16, wl_17, wt_17, wu_17, wa_17, wl_20, wt_20, wu_20, wa_20, wl_21, wt_21, wu_21, wa_21, wl_22, wt_22, wu_22, wa_22, wl_23, wt_23, wu_23, wa_23, wl_24, wt_24, wu_24, wa_24, wl_26, wt_26, wu_26, wa_26, wl_27, wt_27, wu_27, wa_27, wl_28, wt_28, wu_28, wa_28, we_1, we_3, we_10, we_14, we_15, we_16, we_17, we_18, we_20, we_21, we_22, we_24, we_25, we_26, we_27, we_28, we_30, we_31, we_32, wc_20, wc_21, wc_22, wc_24, wc_25, wc_26, wc_27, wc_3, wc_4, wc_7, wc_28, wc_32, ws_1, ws_2, ws_3, ws_4, ws_9, ws_10, ws_11, ws_14, ws_15, ws_16, ws_27, ws_17, ws_20, ws_28, kc_0, kc_1, kn_1, kc_2, kn_2, kc_3, kc_4, kc_5, kc_6, kc_7, kc_8, kc_9, kc_10, kc_12, kc_13, kc_14, kc_16, kc_17, kc_18, kc_19, kc_20, kc_21, kc_22, kc_24, kc_28, kc_30, kc_32, kc_37, kc_40, kc_41, kc_42, kc_43, kc_45, kc_48, kc_56, kc_57, kc_59, kc_60, kc_61, kc_64, kc_73, kc_78, kc_91, kc_95, kc_96, kc_97, kc_98, kc_99, kc_100, kc_112, kc_122, kc_125, kc_126, kc_150, kc_162, kc_163, kc_168, kc_186, kc_190, kc_200, kc_250, kc_255, kc_355, kc_356, kc_404, kc_405, kc_429, kc_573, kc_999, kc_1000, kc_1002, kc_1100, kc_1891, kc_2200, kc_4719, kc_4869, kc_4881, kc_5148, kc_9999, kn_9999, kc_10000, kc_12345, kc_19741, kc_25433, kc_65536, kc_320403, kc_628412, kc_629093, kc_660401, kc_679843, kc_918640, kc_979410, kc_1178088, kc_6232410, kc_24644941, kc_36238189, kc_38270444, kc_392531318, kc_425693491, kc_1103515245, kc_1342154595, kc_2147483648, kc_42328242873, kc_891704255789, kc_1722105685577, kc_1858726030364, ct_0, ct_1, ct_2, ct_3, ct_4, ct_5, cf_0, cf_1, cf_2, cf_3, cf_4, cf_5, w_ty6, w_ty7, m_sv, m_z0, m_hd, m_g0, m_gs, m_s0, m_ss, m_ap, m_an, forall_const, true_and, and_true, ne_eq, not_true_eq_false, not_false_eq_true, false_implies, true_implies, implies_true, eq_self, reduceCtorEq, Nat.reduceDiv, Nat.reduceMod, Int.reduceToNat, or_true, true_or, or_false, false_or, or_self, m_it, m_if, m_c1, m_01, m_02, m_03, m_04, m_10, m_12, m_13, m_14, m_20, m_21, m_23, m_24, m_30, m_31, m_32, m_34, m_40, m_41, m_42, m_43]
  obtain ⟨h1, f1_w, q1_w, p1_w, x1_w⟩ := ce h hp hc_w
  refine ⟨[], h1, f1_w, ?_⟩
  refine w_lp (fun en h' => (∃ v : Int, en = [182, a, v]) ∧ QK P (r_T 0) (RJ P) h' ∧ PX N h h' ∧ EX (b + 1) h h') (fun _ h' => ((N : Int) - h' 182 7).toNat) ⟨⟨0, rfl⟩, q1_w, p1_w, x1_w.mono (by omega)⟩ ?_
  rintro en h2 ⟨⟨v0_w, rfl⟩, q2_w, p2_w, x2_w⟩
  have n1_w := hp.2.1.2.2.2.1
  have n2_w := hp.2.1.2.1
  have n3_w := p2_w.2.2.2.2.1
  refine ⟨?_, ?_⟩
  · show ((N : Int) - h2 182 7).toNat < K
    omega
  simp only [wf_4, wf_40, wf_5, wf_50, wf_6, wl_1, wt_1, wu_1, wa_1, wl_4, wt_4, wu_4, wa_4, wl_5, wt_5, wu_5, wa_5, wl_6, wt_6, wu_6, wa_6, wl_9, wt_9, wu_9, wa_9, wl_10, wt_10, wu_10, wa_10, wl_11, wt_11, wu_11, wa_11, wl_13, wt_13, wu_13, wa_13, wl_14, wt_14, wu_14, wa_14, wl_15, wt_15, wu_15, wa_15, wl_16, wt_16, wu_16, wa_16, wl_17, wt_17, wu_17, wa_17, wl_20, wt_20, wu_20, wa_20, wl_21, wt_21, wu_21, wa_21, wl_22, wt_22, wu_22, wa_22, wl_23, wt_23, wu_23, wa_23, wl_24, wt_24, wu_24, wa_24, wl_26, wt_26, wu_26, wa_26, wl_27, wt_27, wu_27, wa_27, wl_28, wt_28, wu_28, wa_28, we_1, we_3, we_10, we_14, we_15, we_16, we_17, we_18, we_20, we_21, we_22, we_24, we_25, we_26, we_27, we_28, we_30, we_31, we_32, wc_20, wc_21, wc_22, wc_24, wc_25, wc_26, wc_27, wc_3, wc_4, wc_7, wc_28, wc_32, ws_1, ws_2, ws_3, ws_4, ws_9, ws_10, ws_11, ws_14, ws_15, ws_16, ws_27, ws_17, ws_20, ws_28, kc_0, kc_1, kn_1, kc_2, kn_2, kc_3, kc_4, kc_5, kc_6, kc_7, kc_8, kc_9, kc_10, kc_12, kc_13, kc_14, kc_16, kc_17, kc_18, kc_19, kc_20, kc_21, kc_22, kc_24, kc_28, kc_30, kc_32, kc_37, kc_40, kc_41, kc_42, kc_43, kc_45, kc_48, kc_56, kc_57, kc_59, kc_60, kc_61, kc_64, kc_73, kc_78, kc_91, kc_95, kc_96, kc_97, kc_98, kc_99, kc_100, kc_112, kc_122, kc_125, kc_126, kc_150, kc_162, kc_163, kc_168, kc_186, kc_190, kc_200, kc_250, kc_255, kc_355, kc_356, kc_404, kc_405, kc_429, kc_573, kc_999, kc_1000, kc_1002, kc_1100, kc_1891, kc_2200, kc_4719, kc_4869, kc_4881, kc_5148, kc_9999, kn_9999, kc_10000, kc_12345, kc_19741, kc_25433, kc_65536, kc_320403, kc_628412, kc_629093, kc_660401, kc_679843, kc_918640, kc_979410, kc_1178088, kc_6232410, kc_24644941, kc_36238189, kc_38270444, kc_392531318, kc_425693491, kc_1103515245, kc_1342154595, kc_2147483648, kc_42328242873, kc_891704255789, kc_1722105685577, kc_1858726030364, ct_0, ct_1, ct_2, ct_3, ct_4, ct_5, cf_0, cf_1, cf_2, cf_3, cf_4, cf_5, w_ty6, w_ty7, m_sv, m_z0, m_hd, m_g0, m_gs, m_s0, m_ss, m_ap, m_an, forall_const, true_and, and_true, ne_eq, not_true_eq_false, not_false_eq_true, false_implies, true_implies, implies_true, eq_self, reduceCtorEq, Nat.reduceDiv, Nat.reduceMod, Int.reduceToNat, or_true, true_or, or_false, false_or, or_self, m_it, m_if, m_c1, m_01, m_02, m_03, m_04, m_10, m_12, m_13, m_14, m_20, m_21, m_23, m_24, m_30, m_31, m_32, m_34, m_40, m_41, m_42, m_43]
  have hp2 := px_e hp p2_w q2_w hc_w
  obtain ⟨v, d1_w, d2_w, d3_w⟩ := c192 h2 43 hp2 ⟨by decide, by decide⟩
  obtain ⟨w, k1_w, k2, k3⟩ := c192 h2 45 hp2 ⟨by decide, by decide⟩
  have fin_w : (∃ c, tkS h2 c) → ∃ r h3, F 220 [182, a] ((a_g3, g), j_up h2 182 7 (j_iop 0 (h2 182 7) 1)) = some (1, r, (a_g3, g), h3) ∧ (¬j_hd [v] = 0 → ∃ r h5, F 216 [182, 4, 0] ((a_g3, g), h3) = some (1, r, (a_g3, g), h5) ∧ ((∃ w, [182, a, j_hd [v]] = [182, a, w]) ∧ QK P (r_T 0) (RJ P) h5 ∧ PX N h h5 ∧ EX (b + 1) h h5) ∧ ((N : Int) - h5 182 7).toNat < ((N : Int) - h2 182 7).toNat) ∧ (j_hd [v] = 0 → ∃ r h5, F 216 [182, 5, 0] ((a_g3, g), h3) = some (1, r, (a_g3, g), h5) ∧ ((∃ w, [182, a, j_hd [v]] = [182, a, w]) ∧ QK P (r_T 0) (RJ P) h5 ∧ PX N h h5 ∧ EX (b + 1) h h5) ∧ ((N : Int) - h5 182 7).toNat < ((N : Int) - h2 182 7).toNat) := by
    rintro ⟨c, t⟩
    rw [jat hp2]
    obtain ⟨h4, z1, z2⟩ := binE c216 ce hp hc_w q2_w p2_w x2_w (by rw [t.2.1]; decide) (Nat.le_refl _)
    obtain ⟨y1, y2, y3, y4, y5⟩ := z2 4 (by decide) (by decide)
    obtain ⟨w1_w, w2_w, w3_w, w4_w, w5⟩ := z2 5 (by decide) (by decide)
    have y6 := y3.2.2.2.2.2.1
    have w6_w := w3_w.2.2.2.2.2.1
    exact ⟨[], h4, z1, fun _ => ⟨[], _, y1, ⟨⟨_, rfl⟩, y2, y3, y4⟩, by omega⟩, fun _ => ⟨[], _, w1_w, ⟨⟨_, rfl⟩, w2_w, w3_w, w4_w⟩, by omega⟩⟩
  exact ⟨[v], h2, d1_w, fun k => ⟨[v], h2, d1_w, fin_w ⟨43, d3_w.mp k⟩⟩, fun k => ⟨[w], h2, k1_w, fun k2 => ⟨[v], h2, d1_w, fin_w ⟨45, k3.mp k2⟩⟩, fun _ => ⟨q2_w, p2_w, x2_w⟩⟩⟩
theorem g_217 {b : Nat} {a : Int} (hK_w : 1001 ≤ K) (c193 : G193 P N g (evF xs L ck K cW g_M n)) (c216 : G216 P N g (evF xs L ck K cW g_M n)) (ce : GE 218 b a P N g (evF xs L ck K cW g_M n)) : GE 217 (b + 1) a P N g (evF xs L ck K cW g_M (n + 1)) := fun h hp hc_w => by
  suffices hs : ∃ r h', evF xs L ck K cW g_M (n + 1) 217 [182, a] ((a_g3, g), h) = some (1, r, ((a_g3, g), h')) ∧ r = [] ∧ QK P (r_T 0) (RJ P) h' ∧ PX N h h' ∧ EX (b + 1) h h' by
    obtain ⟨r, h', e1_w, rfl, e2_w⟩ := hs
    exact ⟨h', e1_w, e2_w⟩
  refine tr_of gm_217 (B := fun r h' => r = [] ∧ QK P (r_T 0) (RJ P) h' ∧ PX N h h' ∧ EX (b + 1) h h') ?_
  show wS _ _ K bb_217 [182, a, 0] h _
  generalize evF xs L ck K cW g_M n = F at c193 c216 ce ⊢
  unfold bb_217
  simp only [wf_4, wf_40, wf_5, wf_50, wf_6, wl_1, wt_1, wu_1, wa_1, wl_4, wt_4, wu_4, wa_4, wl_5, wt_5, wu_5, wa_5, wl_6, wt_6, wu_6, wa_6, wl_9, wt_9, wu_9, wa_9, wl_10, wt_10, wu_10, wa_10, wl_11, wt_11, wu_11, wa_11, wl_13, wt_13, wu_13, wa_13, wl_14, wt_14, wu_14, wa_14, wl_15, wt_15, wu_15, wa_15, wl_16, wt_16, wu_16, wa_16, wl_17, wt_17, wu_17, wa_17, wl_20, wt_20, wu_20, wa_20, wl_21, wt_21, wu_21, wa_21, wl_22, wt_22, wu_22, wa_22, wl_23, wt_23, wu_23, wa_23, wl_24, wt_24, wu_24, wa_24, wl_26, wt_26, wu_26, wa_26, wl_27, wt_27, wu_27, wa_27, wl_28, wt_28, wu_28, wa_28, we_1, we_3, we_10, we_14, we_15, we_16, we_17, we_18, we_20, we_21, we_22, we_24, we_25, we_26, we_27, we_28, we_30, we_31, we_32, wc_20, wc_21, wc_22, wc_24, wc_25, wc_26, wc_27, wc_3, wc_4, wc_7, wc_28, wc_32, ws_1, ws_2, ws_3, ws_4, ws_9, ws_10, ws_11, ws_14, ws_15, ws_16, ws_27, ws_17, ws_20, ws_28, kc_0, kc_1, kn_1, kc_2, kn_2, kc_3, kc_4, kc_5, kc_6, kc_7, kc_8, kc_9, kc_10, kc_12, kc_13, kc_14, kc_16, kc_17, kc_18, kc_19, kc_20, kc_21, kc_22, kc_24, kc_28, kc_30, kc_32, kc_37, kc_40, kc_41, kc_42, kc_43, kc_45, kc_48, kc_56, kc_57, kc_59, kc_60, kc_61, kc_64, kc_73, kc_78, kc_91, kc_95, kc_96, kc_97, kc_98, kc_99, kc_100, kc_112, kc_122, kc_125, kc_126, kc_150, kc_162, kc_163, kc_168, kc_186, kc_190, kc_200, kc_250, kc_255, kc_355, kc_356, kc_404, kc_405, kc_429, kc_573, kc_999, kc_1000, kc_1002, kc_1100, kc_1891, kc_2200, kc_4719, kc_4869, kc_4881, kc_5148, kc_9999, kn_9999, kc_10000, kc_12345, kc_19741, kc_25433, kc_65536, kc_320403, kc_628412, kc_629093, kc_660401, kc_679843, kc_918640, kc_979410, kc_1178088, kc_6232410, kc_24644941, kc_36238189, kc_38270444, kc_392531318, kc_425693491, kc_1103515245, kc_1342154595, kc_2147483648, kc_42328242873, kc_891704255789, kc_1722105685577, kc_1858726030364, ct_0, ct_1, ct_2, ct_3, ct_4, ct_5, cf_0, cf_1, cf_2, cf_3, cf_4, cf_5, w_ty6, w_ty7, m_sv, m_z0, m_hd, m_g0, m_gs, m_s0, m_ss, m_ap, m_an, forall_const, true_and, and_true, ne_eq, not_true_eq_false, not_false_eq_true, false_implies, true_implies, implies_true, eq_self, reduceCtorEq, Nat.reduceDiv, Nat.reduceMod, Int.reduceToNat, or_true, true_or, or_false, false_or, or_self, m_it, m_if, m_c1, m_01, m_02, m_03, m_04, m_10, m_12, m_13, m_14, m_20, m_21, m_23, m_24, m_30, m_31, m_32, m_34, m_40, m_41, m_42, m_43]
  obtain ⟨h1, f1_w, q1_w, p1_w, x1_w⟩ := ce h hp hc_w
  refine ⟨[], h1, f1_w, ?_⟩
  refine w_lp (fun en h' => (∃ v : Int, en = [182, a, v]) ∧ QK P (r_T 0) (RJ P) h' ∧ PX N h h' ∧ EX (b + 1) h h') (fun _ h' => ((N : Int) - h' 182 7).toNat) ⟨⟨0, rfl⟩, q1_w, p1_w, x1_w.mono (by omega)⟩ ?_
  rintro en h2 ⟨⟨v0_w, rfl⟩, q2_w, p2_w, x2_w⟩
  have n1_w := hp.2.1.2.2.2.1
  have n2_w := hp.2.1.2.1
  have n3_w := p2_w.2.2.2.2.1
  refine ⟨?_, ?_⟩
  · show ((N : Int) - h2 182 7).toNat < K
    omega
  simp only [wf_4, wf_40, wf_5, wf_50, wf_6, wl_1, wt_1, wu_1, wa_1, wl_4, wt_4, wu_4, wa_4, wl_5, wt_5, wu_5, wa_5, wl_6, wt_6, wu_6, wa_6, wl_9, wt_9, wu_9, wa_9, wl_10, wt_10, wu_10, wa_10, wl_11, wt_11, wu_11, wa_11, wl_13, wt_13, wu_13, wa_13, wl_14, wt_14, wu_14, wa_14, wl_15, wt_15, wu_15, wa_15, wl_16, wt_16, wu_16, wa_16, wl_17, wt_17, wu_17, wa_17, wl_20, wt_20, wu_20, wa_20, wl_21, wt_21, wu_21, wa_21, wl_22, wt_22, wu_22, wa_22, wl_23, wt_23, wu_23, wa_23, wl_24, wt_24, wu_24, wa_24, wl_26, wt_26, wu_26, wa_26, wl_27, wt_27, wu_27, wa_27, wl_28, wt_28, wu_28, wa_28, we_1, we_3, we_10, we_14, we_15, we_16, we_17, we_18, we_20, we_21, we_22, we_24, we_25, we_26, we_27, we_28, we_30, we_31, we_32, wc_20, wc_21, wc_22, wc_24, wc_25, wc_26, wc_27, wc_3, wc_4, wc_7, wc_28, wc_32, ws_1, ws_2, ws_3, ws_4, ws_9, ws_10, ws_11, ws_14, ws_15, ws_16, ws_27, ws_17, ws_20, ws_28, kc_0, kc_1, kn_1, kc_2, kn_2, kc_3, kc_4, kc_5, kc_6, kc_7, kc_8, kc_9, kc_10, kc_12, kc_13, kc_14, kc_16, kc_17, kc_18, kc_19, kc_20, kc_21, kc_22, kc_24, kc_28, kc_30, kc_32, kc_37, kc_40, kc_41, kc_42, kc_43, kc_45, kc_48, kc_56, kc_57, kc_59, kc_60, kc_61, kc_64, kc_73, kc_78, kc_91, kc_95, kc_96, kc_97, kc_98, kc_99, kc_100, kc_112, kc_122, kc_125, kc_126, kc_150, kc_162, kc_163, kc_168, kc_186, kc_190, kc_200, kc_250, kc_255, kc_355, kc_356, kc_404, kc_405, kc_429, kc_573, kc_999, kc_1000, kc_1002, kc_1100, kc_1891, kc_2200, kc_4719, kc_4869, kc_4881, kc_5148, kc_9999, kn_9999, kc_10000, kc_12345, kc_19741, kc_25433, kc_65536, kc_320403, kc_628412, kc_629093, kc_660401, kc_679843, kc_918640, kc_979410, kc_1178088, kc_6232410, kc_24644941, kc_36238189, kc_38270444, kc_392531318, kc_425693491, kc_1103515245, kc_1342154595, kc_2147483648, kc_42328242873, kc_891704255789, kc_1722105685577, kc_1858726030364, ct_0, ct_1, ct_2, ct_3, ct_4, ct_5, cf_0, cf_1, cf_2, cf_3, cf_4, cf_5, w_ty6, w_ty7, m_sv, m_z0, m_hd, m_g0, m_gs, m_s0, m_ss, m_ap, m_an, forall_const, true_and, and_true, ne_eq, not_true_eq_false, not_false_eq_true, false_implies, true_implies, implies_true, eq_self, reduceCtorEq, Nat.reduceDiv, Nat.reduceMod, Int.reduceToNat, or_true, true_or, or_false, false_or, or_self, m_it, m_if, m_c1, m_01, m_02, m_03, m_04, m_10, m_12, m_13, m_14, m_20, m_21, m_23, m_24, m_30, m_31, m_32, m_34, m_40, m_41, m_42, m_43]
  have hp2 := px_e hp p2_w q2_w hc_w
  obtain ⟨v, d1_w, d2_w, d3_w⟩ := c193 h2 18 hp2 (by decide) (by decide)
  obtain ⟨w, k1_w, k2, k3⟩ := c193 h2 19 hp2 (by decide) (by decide)
  have fin_w : (∃ c, tkW h2 c) → ∃ r h3, F 218 [182, a] ((a_g3, g), j_up h2 182 7 (j_iop 0 (h2 182 7) 1)) = some (1, r, (a_g3, g), h3) ∧ (¬j_hd [v] = 0 → ∃ r h5, F 216 [182, 9, 0] ((a_g3, g), h3) = some (1, r, (a_g3, g), h5) ∧ ((∃ w, [182, a, j_hd [v]] = [182, a, w]) ∧ QK P (r_T 0) (RJ P) h5 ∧ PX N h h5 ∧ EX (b + 1) h h5) ∧ ((N : Int) - h5 182 7).toNat < ((N : Int) - h2 182 7).toNat) ∧ (j_hd [v] = 0 → ∃ r h5, F 216 [182, 10, 0] ((a_g3, g), h3) = some (1, r, (a_g3, g), h5) ∧ ((∃ w, [182, a, j_hd [v]] = [182, a, w]) ∧ QK P (r_T 0) (RJ P) h5 ∧ PX N h h5 ∧ EX (b + 1) h h5) ∧ ((N : Int) - h5 182 7).toNat < ((N : Int) - h2 182 7).toNat) := by
    rintro ⟨c, t⟩
    rw [jat hp2]
    obtain ⟨h4, z1, z2⟩ := binE c216 ce hp hc_w q2_w p2_w x2_w (by rw [t.2.1]; decide) (Nat.le_refl _)
    obtain ⟨y1, y2, y3, y4, y5⟩ := z2 9 (by decide) (by decide)
    obtain ⟨w1_w, w2_w, w3_w, w4_w, w5⟩ := z2 10 (by decide) (by decide)
    have y6 := y3.2.2.2.2.2.1
    have w6_w := w3_w.2.2.2.2.2.1
    exact ⟨[], h4, z1, fun _ => ⟨[], _, y1, ⟨⟨_, rfl⟩, y2, y3, y4⟩, by omega⟩, fun _ => ⟨[], _, w1_w, ⟨⟨_, rfl⟩, w2_w, w3_w, w4_w⟩, by omega⟩⟩
  exact ⟨[v], h2, d1_w, fun k => ⟨[v], h2, d1_w, fin_w ⟨18, d3_w.mp k⟩⟩, fun k => ⟨[w], h2, k1_w, fun k2 => ⟨[v], h2, d1_w, fin_w ⟨19, k3.mp k2⟩⟩, fun _ => ⟨q2_w, p2_w, x2_w⟩⟩⟩
theorem g_218 {b : Nat} {a : Int} (c192 : G192 P N g (evF xs L ck K cW g_M n)) (c195 : G195 P N g (evF xs L ck K cW g_M n)) (c216 : G216 P N g (evF xs L ck K cW g_M n)) (ce : GE 219 b a P N g (evF xs L ck K cW g_M n)) : GE 218 (b + 1) a P N g (evF xs L ck K cW g_M (n + 1)) := fun h hp hc_w => by
  suffices hs : ∃ r h', evF xs L ck K cW g_M (n + 1) 218 [182, a] ((a_g3, g), h) = some (1, r, ((a_g3, g), h')) ∧ r = [] ∧ QK P (r_T 0) (RJ P) h' ∧ PX N h h' ∧ EX (b + 1) h h' by
    obtain ⟨r, h', e1_w, rfl, e2_w⟩ := hs
    exact ⟨h', e1_w, e2_w⟩
  refine tr_of gm_218 (B := fun r h' => r = [] ∧ QK P (r_T 0) (RJ P) h' ∧ PX N h h' ∧ EX (b + 1) h h') ?_
  show wS _ _ K bb_218 [182, a, 0] h _
  generalize evF xs L ck K cW g_M n = F at c192 c195 c216 ce ⊢
  unfold bb_218
  simp only [wf_4, wf_40, wf_5, wf_50, wf_6, wl_1, wt_1, wu_1, wa_1, wl_4, wt_4, wu_4, wa_4, wl_5, wt_5, wu_5, wa_5, wl_6, wt_6, wu_6, wa_6, wl_9, wt_9, wu_9, wa_9, wl_10, wt_10, wu_10, wa_10, wl_11, wt_11, wu_11, wa_11, wl_13, wt_13, wu_13, wa_13, wl_14, wt_14, wu_14, wa_14, wl_15, wt_15, wu_15, wa_15, wl_16, wt_16, wu_16, wa_16, wl_17, wt_17, wu_17, wa_17, wl_20, wt_20, wu_20, wa_20, wl_21, wt_21, wu_21, wa_21, wl_22, wt_22, wu_22, wa_22, wl_23, wt_23, wu_23, wa_23, wl_24, wt_24, wu_24, wa_24, wl_26, wt_26, wu_26, wa_26, wl_27, wt_27, wu_27, wa_27, wl_28, wt_28, wu_28, wa_28, we_1, we_3, we_10, we_14, we_15, we_16, we_17, we_18, we_20, we_21, we_22, we_24, we_25, we_26, we_27, we_28, we_30, we_31, we_32, wc_20, wc_21, wc_22, wc_24, wc_25, wc_26, wc_27, wc_3, wc_4, wc_7, wc_28, wc_32, ws_1, ws_2, ws_3, ws_4, ws_9, ws_10, ws_11, ws_14, ws_15, ws_16, ws_27, ws_17, ws_20, ws_28, kc_0, kc_1, kn_1, kc_2, kn_2, kc_3, kc_4, kc_5, kc_6, kc_7, kc_8, kc_9, kc_10, kc_12, kc_13, kc_14, kc_16, kc_17, kc_18, kc_19, kc_20, kc_21, kc_22, kc_24, kc_28, kc_30, kc_32, kc_37, kc_40, kc_41, kc_42, kc_43, kc_45, kc_48, kc_56, kc_57, kc_59, kc_60, kc_61, kc_64, kc_73, kc_78, kc_91, kc_95, kc_96, kc_97, kc_98, kc_99, kc_100, kc_112, kc_122, kc_125, kc_126, kc_150, kc_162, kc_163, kc_168, kc_186, kc_190, kc_200, kc_250, kc_255, kc_355, kc_356, kc_404, kc_405, kc_429, kc_573, kc_999, kc_1000, kc_1002, kc_1100, kc_1891, kc_2200, kc_4719, kc_4869, kc_4881, kc_5148, kc_9999, kn_9999, kc_10000, kc_12345, kc_19741, kc_25433, kc_65536, kc_320403, kc_628412, kc_629093, kc_660401, kc_679843, kc_918640, kc_979410, kc_1178088, kc_6232410, kc_24644941, kc_36238189, kc_38270444, kc_392531318, kc_425693491, kc_1103515245, kc_1342154595, kc_2147483648, kc_42328242873, kc_891704255789, kc_1722105685577, kc_1858726030364, ct_0, ct_1, ct_2, ct_3, ct_4, ct_5, cf_0, cf_1, cf_2, cf_3, cf_4, cf_5, w_ty6, w_ty7, m_sv, m_z0, m_hd, m_g0, m_gs, m_s0, m_ss, m_ap, m_an, forall_const, true_and, and_true, ne_eq, not_true_eq_false, not_false_eq_true, false_implies, true_implies, implies_true, eq_self, reduceCtorEq, Nat.reduceDiv, Nat.reduceMod, Int.reduceToNat, or_true, true_or, or_false, false_or, or_self, m_it, m_if, m_c1, m_01, m_02, m_03, m_04, m_10, m_12, m_13, m_14, m_20, m_21, m_23, m_24, m_30, m_31, m_32, m_34, m_40, m_41, m_42, m_43]
  obtain ⟨h1, f1_w, q1_w, p1_w, x1_w⟩ := ce h hp hc_w
  have hp1 := px_e hp p1_w q1_w hc_w
  obtain ⟨v, d1_w, d2_w, d3_w⟩ := c192 h1 60 hp1 ⟨by decide, by decide⟩
  obtain ⟨w, h3, k1_w, k2, k3, k4⟩ := c195 h1 60 hp1 ⟨by decide, by decide⟩
  obtain ⟨u, h4, m1_w, m2_w, m3_w, m4_w⟩ := c195 h1 61 hp1 ⟨by decide, by decide⟩
  have fin_w : ∀ {h3}, (∃ c, tkS h1 c ∧ h3 = atp h1) → ∃ r h2, F 219 [182, a] ((a_g3, g), h3) = some (1, r, (a_g3, g), h2) ∧ (¬j_hd [v] = 0 → ∃ r h5, F 216 [182, 7, 0] ((a_g3, g), h2) = some (1, r, (a_g3, g), h5) ∧ QK P (r_T 0) (RJ P) h5 ∧ PX N h h5 ∧ EX (b + 1) h h5) ∧ (j_hd [v] = 0 → ∃ r h5, F 216 [182, 8, 0] ((a_g3, g), h2) = some (1, r, (a_g3, g), h5) ∧ QK P (r_T 0) (RJ P) h5 ∧ PX N h h5 ∧ EX (b + 1) h h5) := by
    rintro h3 ⟨c, t, rfl⟩
    obtain ⟨h4, z1, z2⟩ := binE c216 ce hp hc_w q1_w p1_w (x1_w.mono (by omega)) (by rw [t.2.1]; decide) (Nat.le_refl _)
    obtain ⟨y1, y2, y3, y4, y5⟩ := z2 7 (by decide) (by decide)
    obtain ⟨w1_w, w2_w, w3_w, w4_w, w5⟩ := z2 8 (by decide) (by decide)
    exact ⟨[], h4, z1, fun _ => ⟨[], _, y1, y2, y3, y4⟩, fun _ => ⟨[], _, w1_w, w2_w, w3_w, w4_w⟩⟩
  refine ⟨[], h1, f1_w, [v], h1, d1_w, [w], h3, k1_w, fun k => fin_w ⟨60, k3 k⟩, fun k => ?_⟩
  obtain ⟨k5, rfl⟩ := k4 k
  exact ⟨[u], h4, m1_w, fun k => fin_w ⟨61, m3_w k⟩, fun k => by
    obtain ⟨k5, rfl⟩ := m4_w k
    exact ⟨q1_w, p1_w, x1_w.mono (by omega)⟩⟩
end PAR6
end
section
/-! ===== the reference's parser: a part of an E ===== -/
def tl_221 : SX := (sx 2 (sx 10 (sx 21 (sx 4 (sx 3 z0 z0 z0) (sv 8) z0) z0 (sv 4)) (sx 20 (sx 17 z0 z0 z0) z0 z0) z0) (sx 11 (sx 24 (sx 32 (sx 30 (sx 3 z0 z0 z0) (sx 30 (sx 1 (sv 17) (sv 1) z0) (sx 31 z0 z0 z0) z0) z0) (sv 196) z0) z0 z0) (sx 20 (sx 2 (sx 9 (sx 32 (sx 30 (sx 3 z0 z0 z0) (sx 30 (sx 14 (sx 3 (sv 1) z0 z0) (sx 1 (sv 1) (sv 1) z0) z0) (sx 31 z0 z0 z0) z0) z0) (sv 221) z0) z0 z0) (sx 9 (sx 32 (sx 30 (sx 3 z0 z0 z0) (sx 30 (sx 1 (sv 3) (sv 1) z0) (sx 30 (sx 1 z0 (sv 1) z0) (sx 31 z0 z0 z0) z0) z0) z0) (sv 216) z0) z0 z0) z0) z0 z0) (sx 11 (sx 24 (sx 32 (sx 30 (sx 3 z0 z0 z0) (sx 30 (sx 1 (sv 40) (sv 1) z0) (sx 31 z0 z0 z0) z0) z0) (sv 195) z0) z0 z0) (sx 20 (sx 2 (sx 9 (sx 32 (sx 30 (sx 3 z0 z0 z0) (sx 30 (sx 14 (sx 3 (sv 1) z0 z0) (sx 1 (sv 1) (sv 1) z0) z0) (sx 31 z0 z0 z0) z0) z0) (sv 217) z0) z0 z0) (sx 9 (sx 32 (sx 30 (sx 3 z0 z0 z0) (sx 30 (sx 1 (sv 41) (sv 1) z0) (sx 31 z0 z0 z0) z0) z0) (sv 194) z0) z0 z0) z0) z0 z0) (sx 20 (sx 2 (sx 9 (sx 32 (sx 30 (sx 3 z0 z0 z0) (sx 30 (sx 28 (sx 24 (sx 3 (sv 2) z0 z0) z0 z0) (sx 1 (sv 1) (sv 1) z0) (sx 1 (sv 2) (sv 1) z0)) (sx 30 (sx 28 (sx 24 (sx 3 (sv 2) z0 z0) z0 z0) (sx 18 (sx 7 (sx 5 (sx 3 z0 z0 z0) (sv 6) z0) (sx 4 (sx 3 z0 z0 z0) (sv 7) z0) z0) z0 (sv 3)) (sx 3 (sv 3) z0 z0)) (sx 31 z0 z0 z0) z0) z0) z0) (sv 216) z0) z0 z0) (sx 6 (sx 3 z0 z0 z0) (sx 1 (sv 1) (sv 1) z0) (sv 112)) z0) z0 z0))) z0)
section PAR7
variable {P : Int × Int} {N : Nat} {g : Nat × Nat} {xs : Nat → Int} {L K n : Nat} {ck : Nat → List Nat} {cW : Nat → Nat → Int} {h h1 h2 : XH} {F : XP}
theorem ex_snoc {b : Nat} {x : Int} (c0 : 0 ≤ h 182 12) (h12 : h 182 12 ≤ h2 182 12) (e : EX b h h2) (hx : ∀ t : Nat, t + b ≤ 63 → htO (t + 1) [x] = some (t + 1)) : EX b h (emt h2 x) := by
  intro h0
  rw [emt_8] at h0
  obtain ⟨l, s, n1_w, t1_w⟩ := e h0
  have hn : (h 182 12).toNat + l.length = (h2 182 12).toNat := by omega
  refine ⟨l ++ [x], Seg.app (fun k hk => ?_) (fun k hk => ?_), ?_, fun t ht => ?_⟩
  · rw [emt_ob (fun z => absurd z (by decide)) (fun _ => by omega)]
    exact s k hk
  · have hk0 : k = 0 := by simpa using hk
    subst hk0
    rw [show 1100 + (h 182 12).toNat + l.length + 0 = 1100 + (h2 182 12).toNat by omega]
    unfold emt
    rw [up_ne (fun z => absurd z.1 (by decide)), up_eq]
    rfl
  · rw [emt_12, List.length_append]
    simp only [List.length_cons, List.length_nil]
    omega
  · rw [htO_app (t1_w t ht)]
    exact hx t ht
theorem ex_one {x : Int} (c0 : 0 ≤ h 182 12) (hx : ∀ t : Nat, t + 1 ≤ 63 → htO t [x] = some (t + 1)) : EX 1 h (emt h x) := by
  intro h0
  refine ⟨[x], fun k hk => ?_, by rw [emt_12]; rfl, hx⟩
  have hk0 : k = 0 := by simpa using hk
  subst hk0
  unfold emt
  rw [up_ne (fun z => absurd z.1 (by decide)), Nat.add_zero, up_eq]
  rfl
theorem ex_atp2 {b : Nat} (e : EX b h h2) : EX b h (atp h2) := fun h0 => by
  obtain ⟨l, s, n1_w, t1_w⟩ := e (atp_8.symm.trans h0)
  refine ⟨l, fun k hk => ?_, ?_, t1_w⟩
  · unfold atp
    rw [up_ne (fun z => absurd z.1 (by decide))]
    exact s k hk
  · unfold atp
    rw [up_ne (fun z => absurd z.2 (by decide))]
    exact n1_w
theorem ex_pa {b : Nat} (e : EX b h h1) (a : PA N h1 h2) : EX b h h2 := fun h0 => by
  obtain ⟨l, s, n1_w, t1_w⟩ := e (Decidable.byContradiction fun z => absurd h0 (by rw [a.2.2.2.1 z]; exact z))
  refine ⟨l, fun k hk => ?_, ?_, t1_w⟩
  · rw [a.1 189 _ (fun z => absurd z (by decide))]
    exact s k hk
  · rw [a.1 182 12 (fun _ => by decide)]
    exact n1_w
theorem htO_3 {b : Nat} : ∀ t : Nat, t + b ≤ 63 → htO (t + 1) [3] = some (t + 1) := fun t _ => by
  unfold htO
  rw [if_neg (by decide), if_neg (by decide), if_pos (by decide), if_pos (by omega)]
  rfl
theorem htO_n {v : Int} (hv : 0 ≤ v) : ∀ t : Nat, t + 1 ≤ 63 → htO t [1 + 16 * v] = some (t + 1) := fun t _ => by
  unfold htO
  rw [if_pos ⟨by omega, by omega⟩, if_pos (by omega)]
  rfl
theorem htO_f {v : Int} (hv : 0 ≤ v) (h4 : v < 4) : ∀ t : Nat, t + 1 ≤ 63 → htO t [2 + 16 * v] = some (t + 1) := fun t _ => by
  unfold htO
  rw [if_neg (fun z => by omega), if_pos ⟨by omega, by omega, by omega⟩, if_pos (by omega)]
  rfl
/-- a number_w or_w a fact is_w emitted, and one goes_w on_w -/
theorem one_E (hp : PK P N h) (hc_w : h 182 12 ≤ h 182 7) (ht : h 184 (h 182 7).toNat ≠ 0) {x : Int} (x0_w : InI x) (hx : ∀ t : Nat, t + 1 ≤ 63 → htO t [x] = some (t + 1)) : QK P (r_T 0) (RJ P) (atp (emt h x)) ∧ PX N h (atp (emt h x)) ∧ EX 1 h (atp (emt h x)) := by
  have pn := PA.next hp ht
  obtain ⟨b1, b2, b3, b4, b5, b6⟩ := pn
  obtain ⟨q, ⟨t1_w, t2_w, t3_w, t4_w, t5_w, t6, t7, t8⟩, _⟩ := hp
  have e7_w : atp (emt h x) 182 7 = h 182 7 + 1 := by
    unfold atp
    rw [up_eq, emt_7]
  have e12_w : atp (emt h x) 182 12 = h 182 12 + 1 := by
    unfold atp
    rw [up_ne (fun z => absurd z.2 (by decide)), emt_12]
  have e8 : atp (emt h x) 182 8 = h 182 8 := atp_8.trans emt_8
  rw [up_eq] at b6
  have q1_w := emt_QK q x0_w ⟨t6, by omega⟩
  refine ⟨fld78 (a := 0) (f := 0) (Or.inl rfl) q1_w (by rw [emt_7]; exact ⟨by omega, by omega⟩), ⟨fun o k k1_w k2 => ?_, ?_, ?_, fun _ => e8, ?_, ?_, ?_, ?_⟩, ex_atp2 (ex_one t6 hx)⟩
  · unfold atp
    rw [up_ne (fun z => (k1_w z.1).1 z.2), emt_ob (fun z => (k1_w z).2.2) (fun z => by have := k2 z; omega)]
  · rw [e8]
    exact t1_w
  · rw [e8]
    exact ht_fld q rfl
  · rw [e7_w]
    omega
  · rw [e7_w]
    exact b6
  · rw [e12_w]
    omega
  · rw [e12_w, e7_w]
    omega
def N221 (h : XH) (a num fact : Int) : Prop := h 182 8 = 0 → a < 5 ∧ ((num = 1 ∧ h 184 (h 182 7).toNat = 2) ∨ (num = 0 ∧ ((0 ≤ fact ∧ fact < 4 ∧ ∃ w, tkW h w) ∨ tkS h 40 ∨ tkW h 17)))
theorem t_221 {b : Nat} {a num fact : Int} {R : Nat → List Int → List Int → XH → Prop} (c194 : G194 P N g F) (c195 : G195 P N g F) (c196 : G196 P N g F) (c216 : G216 P N g F) (ce1 : a < 5 → GE 221 b (a + 1) P N g F) (ce2 : a < 5 → GE 217 b (a + 1) P N g F) (hb_w : 1 ≤ b) (a0_w : 0 ≤ a) (hp : PK P N h) (hc_w : h 182 12 ≤ h 182 7) (hn : N221 h a num fact) (hR : ∀ k en h', (k = 0 ∨ k = 1) → QK P (r_T 0) (RJ P) h' → PX N h h' → EX b h h' → R k [] en h') : wS (a_g3, g) F K tl_221 [182, a, num, fact] h R := by
  unfold tl_221
  simp only [wf_4, wf_40, wf_5, wf_50, wf_6, wl_1, wt_1, wu_1, wa_1, wl_4, wt_4, wu_4, wa_4, wl_5, wt_5, wu_5, wa_5, wl_6, wt_6, wu_6, wa_6, wl_9, wt_9, wu_9, wa_9, wl_10, wt_10, wu_10, wa_10, wl_11, wt_11, wu_11, wa_11, wl_13, wt_13, wu_13, wa_13, wl_14, wt_14, wu_14, wa_14, wl_15, wt_15, wu_15, wa_15, wl_16, wt_16, wu_16, wa_16, wl_17, wt_17, wu_17, wa_17, wl_20, wt_20, wu_20, wa_20, wl_21, wt_21, wu_21, wa_21, wl_22, wt_22, wu_22, wa_22, wl_23, wt_23, wu_23, wa_23, wl_24, wt_24, wu_24, wa_24, wl_26, wt_26, wu_26, wa_26, wl_27, wt_27, wu_27, wa_27, wl_28, wt_28, wu_28, wa_28, we_1, we_3, we_10, we_14, we_15, we_16, we_17, we_18, we_20, we_21, we_22, we_24, we_25, we_26, we_27, we_28, we_30, we_31, we_32, wc_20, wc_21, wc_22, wc_24, wc_25, wc_26, wc_27, wc_3, wc_4, wc_7, wc_28, wc_32, ws_1, ws_2, ws_3, ws_4, ws_9, ws_10, ws_11, ws_14, ws_15, ws_16, ws_27, ws_17, ws_20, ws_28, kc_0, kc_1, kn_1, kc_2, kn_2, kc_3, kc_4, kc_5, kc_6, kc_7, kc_8, kc_9, kc_10, kc_12, kc_13, kc_14, kc_16, kc_17, kc_18, kc_19, kc_20, kc_21, kc_22, kc_24, kc_28, kc_30, kc_32, kc_37, kc_40, kc_41, kc_42, kc_43, kc_45, kc_48, kc_56, kc_57, kc_59, kc_60, kc_61, kc_64, kc_73, kc_78, kc_91, kc_95, kc_96, kc_97, kc_98, kc_99, kc_100, kc_112, kc_122, kc_125, kc_126, kc_150, kc_162, kc_163, kc_168, kc_186, kc_190, kc_200, kc_250, kc_255, kc_355, kc_356, kc_404, kc_405, kc_429, kc_573, kc_999, kc_1000, kc_1002, kc_1100, kc_1891, kc_2200, kc_4719, kc_4869, kc_4881, kc_5148, kc_9999, kn_9999, kc_10000, kc_12345, kc_19741, kc_25433, kc_65536, kc_320403, kc_628412, kc_629093, kc_660401, kc_679843, kc_918640, kc_979410, kc_1178088, kc_6232410, kc_24644941, kc_36238189, kc_38270444, kc_392531318, kc_425693491, kc_1103515245, kc_1342154595, kc_2147483648, kc_42328242873, kc_891704255789, kc_1722105685577, kc_1858726030364, ct_0, ct_1, ct_2, ct_3, ct_4, ct_5, cf_0, cf_1, cf_2, cf_3, cf_4, cf_5, w_ty6, w_ty7, m_sv, m_z0, m_hd, m_g0, m_gs, m_s0, m_ss, m_ap, m_an, forall_const, true_and, and_true, ne_eq, not_true_eq_false, not_false_eq_true, false_implies, true_implies, implies_true, eq_self, reduceCtorEq, Nat.reduceDiv, Nat.reduceMod, Int.reduceToNat, or_true, true_or, or_false, false_or, or_self, m_it, m_if, m_c1, m_01, m_02, m_03, m_04, m_10, m_12, m_13, m_14, m_20, m_21, m_23, m_24, m_30, m_31, m_32, m_34, m_40, m_41, m_42, m_43]
  have pq_w := hp
  obtain ⟨q, ⟨t1_w, t2_w, t3_w, t4_w, t5_w, t6, t7, t8⟩, _⟩ := pq_w
  have px0 : PX N h h := PA.px hp (PA.rf hp)
  have ba_w : 0 ≤ h 182 7 ∧ h 182 7 < 1002 := ⟨t2_w, by omega⟩
  refine ⟨fun k => hR 1 _ h (Or.inr rfl) q px0 (fun z => by omega), fun k => ?_⟩
  have k0_w : h 182 8 = 0 := by omega
  obtain ⟨a5, hn⟩ := hn k0_w
  have e12_w : atp h 182 12 = h 182 12 := up_ne (fun z => absurd z.2 (by decide))
  have e7_w : atp h 182 7 = h 182 7 + 1 := up_eq
  obtain ⟨v, h1, d1_w, d2_w, d3_w, d4_w⟩ := c196 h 17 hp (by decide) (by decide)
  rw [jadd (x := a) (y := 1) (by omega) (by omega)]
  refine ⟨[v], h1, d1_w, fun kv => ?_, fun kv => ?_⟩
  · obtain ⟨t, rfl⟩ := d3_w kv
    have tt : h 184 (h 182 7).toNat ≠ 0 := by rw [t.2.1]; decide
    obtain ⟨h2, f1_w, q2_w, p2_w, x2_w⟩ := ce1 a5 (atp h) (hp.pa (PA.next hp tt)) (by rw [e12_w, e7_w]; omega)
    obtain ⟨s1_w, s2_w, s3_w⟩ := stepE hp hc_w tt p2_w q2_w (x := 3) ⟨by decide, by decide⟩
    have b6 := p2_w.2.2.2.2.2.1
    have b7 := p2_w.2.2.2.2.2.2.1
    have b8 := p2_w.2.2.2.2.2.2.2
    rw [e12_w] at b7 b8
    rw [e7_w] at b8
    have k := c216 h2 3 0 (by omega) (by omega) (by decide) (by decide) (by decide) (by decide)
    rw [Int.mul_zero, Int.add_zero] at k
    exact ⟨[], h2, f1_w, [], _, k, hR 0 _ _ (Or.inl rfl) s1_w s2_w (ex_snoc t6 b7 (ex_atp x2_w) htO_3)⟩
  · rw [(d4_w kv).2]
    obtain ⟨w, h3, m1_w, m2_w, m3_w, m4_w⟩ := c195 h 40 hp ⟨by decide, by decide⟩
    refine ⟨[w], h3, m1_w, fun kw => ?_, fun kw => ?_⟩
    · obtain ⟨t, rfl⟩ := m3_w kw
      have tt : h 184 (h 182 7).toNat ≠ 0 := by rw [t.2.1]; decide
      have pn := PA.next hp tt
      have hpa : PK P N (atp h) := hp.pa pn
      have hca : atp h 182 12 ≤ atp h 182 7 := by rw [e12_w, e7_w]; omega
      obtain ⟨h2, f1_w, q2_w, p2_w, x2_w⟩ := ce2 a5 (atp h) hpa hca
      have hp2 := px_e hpa p2_w q2_w hca
      obtain ⟨h4, y1, y2, -⟩ := c194 h2 41 hp2 ⟨by decide, by decide⟩
      exact ⟨[], h2, f1_w, [], h4, y1, hR 0 _ _ (Or.inl rfl) (hp2.pa y2).1 ((PA.px hp pn).tr (p2_w.tr (PA.px hp2 y2) (by rw [e12_w]; exact t6)) t6) (ex_pa (ex_atp x2_w) y2)⟩
    · rw [(m4_w kw).2]
      have nt := (d4_w kv).1
      have np := (m4_w kw).1
      rcases hn with ⟨rfl, hs⟩ | ⟨rfl, hm_w⟩
      · refine ⟨fun _ => ⟨fun _ => ⟨ba_w, ?_⟩, fun z => absurd z (by decide)⟩, fun z => absurd z (by decide)⟩
        have hN_w : (h 182 7).toNat < N := by
          rcases Nat.lt_or_ge (h 182 7).toNat N with z | z
          · exact z
          · have z2 : (h 182 7).toNat = N := by omega
            rw [z2, t5_w] at hs
            exact absurd hs (by decide)
        obtain ⟨v0_w, v1_w⟩ := t8 _ hN_w hs
        rw [show j_un 3 (h 186 (h 182 7).toNat) = h 186 (h 182 7).toNat from j32_in ⟨by omega, by omega⟩]
        obtain ⟨z1, z2, z3⟩ := one_E hp hc_w (by rw [hs]; decide) (x := 1 + 16 * h 186 (h 182 7).toNat) ⟨by omega, by omega⟩ (htO_n v0_w)
        refine ⟨[], _, c216 h 1 _ t6 (by omega) (by decide) (by decide) v0_w v1_w, ?_⟩
        rw [show j_iop 0 (emt h (1 + 16 * h 186 (h 182 7).toNat) 182 7) 1 = emt h (1 + 16 * h 186 (h 182 7).toNat) 182 7 + 1 by rw [emt_7]; exact jat hp]
        exact hR 0 _ _ (Or.inl rfl) z1 z2 (z3.mono hb_w)
      · refine ⟨fun z => absurd rfl z, fun _ => ⟨fun z => absurd rfl z, fun _ => ?_⟩⟩
        rcases hm_w with ⟨f0_w, f1_w, w2_w, tw⟩ | z | z
        · obtain ⟨z1, z2, z3⟩ := one_E hp hc_w (by rw [tw.2.1]; decide) (x := 2 + 16 * fact) ⟨by omega, by omega⟩ (htO_f f0_w f1_w)
          refine ⟨[], _, c216 h 2 fact t6 (by omega) (by decide) (by decide) f0_w (by omega), ?_⟩
          rw [show j_iop 0 (emt h (2 + 16 * fact) 182 7) 1 = emt h (2 + 16 * fact) 182 7 + 1 by rw [emt_7]; exact jat hp]
          exact hR 0 _ _ (Or.inl rfl) z1 z2 (z3.mono hb_w)
        · exact absurd z np
        · exact absurd z nt
theorem b_221 : bb_221 = (sx 2 (sx 2 (sx 10 (sx 21 (sx 4 (sx 3 z0 z0 z0) (sv 8) z0) z0 (sv 4)) (sx 20 (sx 17 z0 z0 z0) z0 z0) z0) (sx 2 (sx 3 (sv 2) (sx 20 (sx 7 (sx 5 (sx 3 z0 z0 z0) (sv 4) z0) (sx 4 (sx 3 z0 z0 z0) (sv 7) z0) z0) (sx 1 (sv 2) (sv 1) z0) z0) z0) (sx 2 (sx 3 (sv 3) (sx 32 (sx 30 (sx 3 z0 z0 z0) (sx 30 (sx 1 (sv 20) (sv 1) z0) (sx 30 (sx 1 (sv 4) (sv 1) z0) (sx 31 z0 z0 z0) z0) z0) z0) (sv 201) z0) z0) (sx 2 (sx 11 (sx 25 (sx 25 (sx 25 (sx 21 (sx 3 (sv 3) z0 z0) z0 (sv 2)) (sx 27 (sx 24 (sx 3 (sv 2) z0 z0) z0 z0) z0 z0) z0) (sx 27 (sx 24 (sx 32 (sx 30 (sx 3 z0 z0 z0) (sx 30 (sx 1 (sv 40) (sv 1) z0) (sx 31 z0 z0 z0) z0) z0) (sv 192) z0) z0 z0) z0 z0) z0) (sx 27 (sx 24 (sx 32 (sx 30 (sx 3 z0 z0 z0) (sx 30 (sx 1 (sv 17) (sv 1) z0) (sx 31 z0 z0 z0) z0) z0) (sv 193) z0) z0 z0) z0 z0) z0) (sx 20 (sx 9 (sx 32 (sx 30 (sx 3 z0 z0 z0) (sx 30 (sx 1 (sv 1) (sv 1) z0) (sx 31 z0 z0 z0) z0) z0) (sv 191) z0) z0 z0) z0 z0) (sx 10 (sx 20 (sx 3 (sv 1) z0 z0) (sx 1 (sv 5) (sv 1) z0) z0) (sx 20 (sx 9 (sx 32 (sx 30 (sx 3 z0 z0 z0) (sx 30 (sx 1 (sv 5) (sv 1) z0) (sx 31 z0 z0 z0) z0) z0) (sv 191) z0) z0 z0) z0 z0) z0)) tl_221 z0) z0) z0) z0) (sx 17 z0 z0 z0) z0) := rfl
def E221 (P : Int × Int) (N b : Nat) (h : XH) : Nat → List Int → List Int → XH → Prop := fun k vs _ h1 => (k = 0 → QK P (r_T 0) (RJ P) h1 ∧ PX N h h1 ∧ EX b h h1) ∧ (¬k = 0 → k = 1 ∧ vs = [] ∧ QK P (r_T 0) (RJ P) h1 ∧ PX N h h1 ∧ EX b h h1)
theorem ex_12 {b : Nat} (e12_w : h1 182 12 = h 182 12) (e : EX b h1 h2) : EX b h h2 := fun h0 => by
  have k := e h0
  rw [e12_w] at k
  exact k
theorem g_221 {b : Nat} {a : Int} (c191 : G191 P N g (evF xs L ck K cW g_M n)) (c192 : G192 P N g (evF xs L ck K cW g_M n)) (c193 : G193 P N g (evF xs L ck K cW g_M n)) (c194 : G194 P N g (evF xs L ck K cW g_M n)) (c195 : G195 P N g (evF xs L ck K cW g_M n)) (c196 : G196 P N g (evF xs L ck K cW g_M n)) (c201 : G201 P N g (evF xs L ck K cW g_M n)) (c216 : G216 P N g (evF xs L ck K cW g_M n)) (ce1 : a < 5 → GE 221 b (a + 1) P N g (evF xs L ck K cW g_M n)) (ce2 : a < 5 → GE 217 b (a + 1) P N g (evF xs L ck K cW g_M n)) (hb_w : 1 ≤ b) (a0_w : 0 ≤ a) (a5 : a ≤ 5) : GE 221 b a P N g (evF xs L ck K cW g_M (n + 1)) := fun h hp hc_w => by
  suffices hs : ∃ r h', evF xs L ck K cW g_M (n + 1) 221 [182, a] ((a_g3, g), h) = some (1, r, ((a_g3, g), h')) ∧ r = [] ∧ QK P (r_T 0) (RJ P) h' ∧ PX N h h' ∧ EX b h h' by
    obtain ⟨r, h', e1_w, rfl, e2_w⟩ := hs
    exact ⟨h', e1_w, e2_w⟩
  refine tr_of gm_221 (B := fun r h' => r = [] ∧ QK P (r_T 0) (RJ P) h' ∧ PX N h h' ∧ EX b h h') ?_
  show wS _ _ K bb_221 [182, a, 0, 0] h _
  generalize evF xs L ck K cW g_M n = F at c191 c192 c193 c194 c195 c196 c201 c216 ce1 ce2 ⊢
  rw [b_221]
  simp only [wf_4, wf_40, wf_5, wf_50, wf_6, wl_1, wt_1, wu_1, wa_1, wl_4, wt_4, wu_4, wa_4, wl_5, wt_5, wu_5, wa_5, wl_6, wt_6, wu_6, wa_6, wl_9, wt_9, wu_9, wa_9, wl_10, wt_10, wu_10, wa_10, wl_11, wt_11, wu_11, wa_11, wl_13, wt_13, wu_13, wa_13, wl_14, wt_14, wu_14, wa_14, wl_15, wt_15, wu_15, wa_15, wl_16, wt_16, wu_16, wa_16, wl_17, wt_17, wu_17, wa_17, wl_20, wt_20, wu_20, wa_20, wl_21, wt_21, wu_21, wa_21, wl_22, wt_22, wu_22, wa_22, wl_23, wt_23, wu_23, wa_23, wl_24, wt_24, wu_24, wa_24, wl_26, wt_26, wu_26, wa_26, wl_27, wt_27, wu_27, wa_27, wl_28, wt_28, wu_28, wa_28, we_1, we_3, we_10, we_14, we_15, we_16, we_17, we_18, we_20, we_21, we_22, we_24, we_25, we_26, we_27, we_28, we_30, we_31, we_32, wc_20, wc_21, wc_22, wc_24, wc_25, wc_26, wc_27, wc_3, wc_4, wc_7, wc_28, wc_32, ws_1, ws_2, ws_3, ws_4, ws_9, ws_10, ws_11, ws_14, ws_15, ws_16, ws_27, ws_17, ws_20, ws_28, kc_0, kc_1, kn_1, kc_2, kn_2, kc_3, kc_4, kc_5, kc_6, kc_7, kc_8, kc_9, kc_10, kc_12, kc_13, kc_14, kc_16, kc_17, kc_18, kc_19, kc_20, kc_21, kc_22, kc_24, kc_28, kc_30, kc_32, kc_37, kc_40, kc_41, kc_42, kc_43, kc_45, kc_48, kc_56, kc_57, kc_59, kc_60, kc_61, kc_64, kc_73, kc_78, kc_91, kc_95, kc_96, kc_97, kc_98, kc_99, kc_100, kc_112, kc_122, kc_125, kc_126, kc_150, kc_162, kc_163, kc_168, kc_186, kc_190, kc_200, kc_250, kc_255, kc_355, kc_356, kc_404, kc_405, kc_429, kc_573, kc_999, kc_1000, kc_1002, kc_1100, kc_1891, kc_2200, kc_4719, kc_4869, kc_4881, kc_5148, kc_9999, kn_9999, kc_10000, kc_12345, kc_19741, kc_25433, kc_65536, kc_320403, kc_628412, kc_629093, kc_660401, kc_679843, kc_918640, kc_979410, kc_1178088, kc_6232410, kc_24644941, kc_36238189, kc_38270444, kc_392531318, kc_425693491, kc_1103515245, kc_1342154595, kc_2147483648, kc_42328242873, kc_891704255789, kc_1722105685577, kc_1858726030364, ct_0, ct_1, ct_2, ct_3, ct_4, ct_5, cf_0, cf_1, cf_2, cf_3, cf_4, cf_5, w_ty6, w_ty7, m_sv, m_z0, m_hd, m_g0, m_gs, m_s0, m_ss, m_ap, m_an, forall_const, true_and, and_true, ne_eq, not_true_eq_false, not_false_eq_true, false_implies, true_implies, implies_true, eq_self, reduceCtorEq, Nat.reduceDiv, Nat.reduceMod, Int.reduceToNat, or_true, true_or, or_false, false_or, or_self, m_it, m_if, m_c1, m_01, m_02, m_03, m_04, m_10, m_12, m_13, m_14, m_20, m_21, m_23, m_24, m_30, m_31, m_32, m_34, m_40, m_41, m_42, m_43]
  have p1_w := hp.2.1.1
  have c0 := hp.2.1.2.2.2.2.2.1
  have t2_w := hp.2.1.2.1
  have t3_w := hp.2.1.2.2.1
  have t4_w := hp.2.1.2.2.2.1
  have ba_w : 0 ≤ h 182 7 ∧ h 182 7 < 1002 := ⟨t2_w, by omega⟩
  have T : ∀ (num fact : Int) (h2 : XH), PA N h h2 → N221 h2 a num fact → wS (a_g3, g) F K tl_221 [182, a, num, fact] h2 (E221 P N b h) := fun num fact h2 ha_w hn => by
    have e12_w : h2 182 12 = h 182 12 := ha_w.1 182 12 (fun _ => by decide)
    have a5' := ha_w.2.2.2.2.1
    refine t_221 c194 c195 c196 c216 ce1 ce2 hb_w a0_w (hp.pa ha_w) (by omega) hn ?_
    intro k en h' hk q px ex_w
    have good_w : QK P (r_T 0) (RJ P) h' ∧ PX N h h' ∧ EX b h h' := ⟨q, (PA.px hp ha_w).tr px c0, ex_12 e12_w ex_w⟩
    exact ⟨fun _ => good_w, fun z => ⟨by omega, rfl, good_w⟩⟩
  have W : ∀ (w : Int) (num fact : Int), 1 ≤ w → w ≤ 5 → ∃ r h2, F 191 [182, w] ((a_g3, g), h) = some (1, r, (a_g3, g), h2) ∧ wS (a_g3, g) F K tl_221 [182, a, num, fact] h2 (E221 P N b h) := fun w num fact w0_w w1_w => by
    obtain ⟨h2, f1_w, f2_w, f3_w, f4_w, -⟩ := c191 h w hp w0_w w1_w
    exact ⟨[], h2, f1_w, T num fact h2 f2_w (fun z => absurd z f4_w)⟩
  have D : ∀ (num fact : Int), (h 182 8 = 0 → (num = 1 ∧ h 184 (h 182 7).toNat = 2) ∨ (num = 0 ∧ ((0 ≤ fact ∧ fact < 4 ∧ ∃ w, tkW h w) ∨ tkS h 40 ∨ tkW h 17))) → (a = 5 → ∃ r h2, F 191 [182, 5] ((a_g3, g), h) = some (1, r, (a_g3, g), h2) ∧ wS (a_g3, g) F K tl_221 [182, a, num, fact] h2 (E221 P N b h)) ∧ (¬a = 5 → wS (a_g3, g) F K tl_221 [182, a, num, fact] h (E221 P N b h)) := fun num fact hn => ⟨fun _ => W 5 num fact (by decide) (by decide), fun z => T num fact h (PA.rf hp) (fun k => ⟨by omega, hn k⟩)⟩
  refine ⟨fun k => ⟨hp.1, PA.px hp (PA.rf hp), fun z => by omega⟩, fun k => ⟨ba_w, fun hs => ?_, fun hs => ?_⟩⟩
  · obtain ⟨v, e1_w, e2_w, e3_w, e4_w, e5_w⟩ := c201 h 20 4 hp (by decide) (by decide) (by decide)
    have no : v < 0 := by
      rcases Int.lt_or_le v 0 with z | z
      · exact z
      · have z2 := (e4_w z).2.2.1
        rw [hs] at z2
        exact absurd z2 (by decide)
    exact ⟨[v], h, e1_w, fun _ => ⟨fun _ => D 1 v (fun _ => Or.inl ⟨rfl, hs⟩), fun z => absurd z (by decide)⟩, fun z => absurd no (Int.not_lt.mpr z)⟩
  · obtain ⟨v, e1_w, e2_w, e3_w, e4_w, e5_w⟩ := c201 h 20 4 hp (by decide) (by decide) (by decide)
    obtain ⟨w, d1_w, d2_w, d3_w⟩ := c192 h 40 hp ⟨by decide, by decide⟩
    obtain ⟨u, m1_w, m2_w, m3_w⟩ := c193 h 17 hp (by decide) (by decide)
    exact ⟨[v], h, e1_w, fun _ => ⟨[w], h, d1_w, fun k2 => D 0 v (fun _ => Or.inr ⟨rfl, Or.inr (Or.inl (d3_w.mp k2))⟩), fun _ => ⟨[u], h, m1_w, fun k2 => D 0 v (fun _ => Or.inr ⟨rfl, Or.inr (Or.inr (m3_w.mp k2))⟩), fun _ => W 1 0 v (by decide) (by decide)⟩⟩, fun z => D 0 v (fun _ => Or.inr ⟨rfl, Or.inl ⟨z, (e4_w z).1, _, (e4_w z).2⟩⟩)⟩
/-- every fuel is_w enough_w that is_w so much deeper -/
def PB (P : Int × Int) (N : Nat) (g : Nat × Nat) (F : XP) : Prop := G191 P N g F ∧ G192 P N g F ∧ G193 P N g F ∧ G194 P N g F ∧ G195 P N g F ∧ G196 P N g F ∧ G197 P N g F ∧ G200 P N g F ∧ G201 P N g F ∧ G202 P N g F ∧ G203 P N g F ∧ G204 P N g F ∧ G205 P N g F ∧ G216 P N g F
theorem p_b (hK_w : 4294967300 ≤ K) : PB P N g (evF xs L ck K cW g_M (n + 5)) :=
  ⟨g_191, g_192, g_193, g_194 g_192 g_191, g_195 g_192, g_196 g_193, g_197 (g_196 g_193) g_191, g_200 g_191, g_201 hK_w g_193, g_202 (g_201 hK_w g_193) g_191, g_203 (g_201 hK_w g_193), g_204 hK_w, g_205 (g_203 (g_201 hK_w g_193)) (g_204 hK_w) g_191, g_216⟩
theorem GE.mono {f b c : Nat} {d : Int} (e : GE f b d P N g F) (hb_w : b ≤ c) : GE f c d P N g F := fun h hp hc_w => by
  obtain ⟨h', e1_w, e2_w, e3_w, e4_w⟩ := e h hp hc_w
  exact ⟨h', e1_w, e2_w, e3_w, EX.mono e4_w hb_w⟩
theorem g_E1 {k : Nat} {d : Int} (hK_w : 4294967300 ≤ K) (e : GE 221 (4 * k + 1) d P N g (evF xs L ck K cW g_M (n + 2))) : GE 217 (4 * k + 5) d P N g (evF xs L ck K cW g_M (n + 6)) :=
  g_217 (b := 4 * k + 4) (by omega) g_193 g_216 (g_218 (b := 4 * k + 3) g_192 (g_195 g_192) g_216 (g_219 (b := 4 * k + 2) (by omega) g_192 g_216 (g_220 (b := 4 * k + 1) (by omega) (g_195 g_192) g_216 e)))
theorem g_E (hK_w : 4294967300 ≤ K) : ∀ (k n : Nat) (d : Int), d = 5 - (k : Int) → 0 ≤ d → GE 221 (4 * k + 1) d P N g (evF xs L ck K cW g_M (n + (5 * k + 6))) ∧ GE 217 (4 * k + 5) d P N g (evF xs L ck K cW g_M (n + (5 * k + 10)))
  | 0, n, d, hd_w, d0_w => by
    obtain ⟨c191, c192, c193, c194, c195, c196, c197, c200, c201, c202, c203, c204, c205, c216⟩ := p_b (P := P) (N := N) (g := g) (xs := xs) (L := L) (K := K) (n := n) (ck := ck) (cW := cW) hK_w
    have e : GE 221 (4 * 0 + 1) d P N g (evF xs L ck K cW g_M (n + 6)) := g_221 c191 c192 c193 c194 c195 c196 c201 c216 (fun z => by omega) (fun z => by omega) (by decide) d0_w (by omega)
    exact ⟨e, g_E1 (n := n + 4) hK_w e⟩
  | k + 1, n, d, hd_w, d0_w => by
    obtain ⟨c191, c192, c193, c194, c195, c196, c197, c200, c201, c202, c203, c204, c205, c216⟩ := p_b (P := P) (N := N) (g := g) (xs := xs) (L := L) (K := K) (n := n + (5 * k + 5)) (ck := ck) (cW := cW) hK_w
    have i1_w := (g_E hK_w k n (d + 1) (by omega) (by omega)).2
    have i2_w := (g_E hK_w k (n + 4) (d + 1) (by omega) (by omega)).1
    rw [show n + 4 + (5 * k + 6) = n + (5 * k + 10) by omega] at i2_w
    have e : GE 221 (4 * k + 5) d P N g (evF xs L ck K cW g_M (n + (5 * k + 10) + 1)) := g_221 c191 c192 c193 c194 c195 c196 c201 c216 (fun _ => i2_w.mono (by omega)) (fun _ => i1_w) (by omega) d0_w (by omega)
    have e2_w := g_E1 (k := k + 1) (n := n + (5 * k + 9)) hK_w e
    exact ⟨e, e2_w⟩
end PAR7
end
section
/-! ===== the reference's parser: what is_w drafted ===== -/
/-- at, fault, some cells_w of the draft and the new_w names_w alone_w are written_w -/
def PF (N : Nat) (W : Nat → Prop) (h h' : XH) : Prop := (∀ o k : Nat, (o = 182 → k ≠ 7 ∧ k ≠ 8) → (o = 188 → ¬W k) → (o = 190 → k < 14) → h' o k = h o k) ∧ 0 ≤ h' 182 8 ∧ InI (h' 182 8) ∧ (h 182 8 ≠ 0 → h' 182 8 = h 182 8) ∧ h 182 7 ≤ h' 182 7 ∧ h' 182 7 ≤ (N : Int)
def G207 (g : Nat × Nat) (F : XP) : Prop := ∀ (h : XH) (a : Int), 0 ≤ a → a < 95 → F 207 [182, a] ((a_g3, g), h) = some (1, [h 188 (95 + a.toNat)], ((a_g3, g), h))
def g_fit (lo_w hi_w : Nat) (t : IT) : Bool := (r_A 188).2.2.all fun r => (Nat.ble hi_w r.1 || Nat.ble r.2.1 lo_w) || i_sub t r.2.2
section PAR8
variable {P : Int × Int} {N : Nat} {g : Nat × Nat} {xs : Nat → Int} {L K n : Nat} {ck : Nat → List Nat} {cW : Nat → Nat → Int} {h h' h1 h2 : XH} {F : XP} {W V : Nat → Prop}
theorem g_fit_ok {lo_w hi_w i : Nat} {t : IT} {v : Int} (hc_w : g_fit lo_w hi_w t = true) (h1 : lo_w ≤ i) (h2 : i < hi_w) (hv : IV P t v) : ∀ r ∈ (r_A 188).2.2, r.1 ≤ i → i < r.2.1 → IV P r.2.2 v := by
  intro r hr k1_w k2
  have h3 := List.all_eq_true.mp hc_w r hr
  simp only [Bool.or_eq_true, Nat.ble_eq] at h3
  exact IV.sub (h3.resolve_left (by omega)) hv
theorem dw_QK (hQ : QK P (r_T 0) (RJ P) h) {q i : Nat} {v : Int} (hH : HT g_fk a_g3 (j_up h q i v)) (hq : (q = 188 ∧ 95 ≤ i) ∨ (q = 189 ∧ 1100 ≤ i) ∨ q = 190 ∨ (q = 191 ∧ 125 ≤ i)) (hv : ∀ r ∈ (r_A q).2.2, r.1 ≤ i → i < r.2.1 → IV P r.2.2 v) : QK P (r_T 0) (RJ P) (j_up h q i v) := by
  have h0 : 0 ≤ h 191 0 ∧ h 191 0 ≤ 30 := by
    have k : IV P (1, 0, 30) (h 191 0) := q_cell hQ (q := 191) (r := 0) (x := (0, 1, (1, 0, 30))) (by decide) rfl rfl (by decide) (by decide)
    exact ⟨k.1, k.2.1⟩
  have m0_w := (q_nM hQ).2
  have c0 := (q_nC hQ).2
  refine ⟨hH, fun k => ?_, fun q' hq' => ?_, ?_⟩
  · rw [up_ne (fun z => by omega)]
    exact hQ.2.1 k
  · by_cases e : q' = q
    · subst e
      intro r hr a b k1_w k2 k3
      have eb : (qA (r_T 0) q').2.1 = 0 := by
        rcases hq with ⟨rfl, _⟩ | ⟨rfl, _⟩ | rfl | ⟨rfl, _⟩ <;> rfl
      have old_w := hQ.2.2.1 q' hq' r hr a b k1_w k2 k3
      rw [eb, Nat.zero_mul, Nat.zero_add] at old_w ⊢
      by_cases e2_w : a = i
      · subst e2_w
        rw [up_eq]
        exact hv r hr k1_w k2
      · rw [up_ne (fun z => e2_w z.2)]
        exact old_w
    · have e2_w : j_up h q i v q' = h q' := funext fun i => up_ne (fun z => e z.1)
      rw [e2_w]
      exact hQ.2.2.1 q' hq'
  · obtain ⟨⟨j1, j1'⟩, j2_w, j3_w⟩ := hQ.2.2.2
    have lo_w : ∀ k, k < 95 → j_up h q i v 188 k = h 188 k := fun k hk => up_ne (fun z => by omega)
    have lc : ∀ k, k < 1100 → j_up h q i v 189 k = h 189 k := fun k hk => up_ne (fun z => by omega)
    have ll : ∀ k, k < 125 → j_up h q i v 191 k = h 191 k := fun k hk => up_ne (fun z => by omega)
    refine ⟨⟨fun m hm_w => ?_, fun c hc_w => ?_⟩, fun z => ?_, fun n hn => ?_⟩
    · rw [lo_w _ (by omega)]
      exact j1 m hm_w
    · rw [lo_w _ (by omega)]
      exact j1' c hc_w
    · rw [lo_w 4 (by decide)] at z ⊢
      exact (j2_w z).up lc
    · rw [ll 0 (by decide)] at hn
      rw [ll _ (by omega), ll _ (by omega), ll _ (by omega), ll _ (by omega)]
      exact j3_w n hn
theorem PA.pf (a : PA N h h') : PF N W h h' := ⟨fun o k e _ _ => a.1 o k e, a.2⟩
theorem PF.tr (a : PF N W h h') (b : PF N W h' h2) : PF N W h h2 := by
  obtain ⟨a1_w, a2, a3, a4, a5, a6⟩ := a
  obtain ⟨b1, b2, b3, b4, b5, b6⟩ := b
  exact ⟨fun o k e e2_w e3_w => (b1 o k e e2_w e3_w).trans (a1_w o k e e2_w e3_w), b2, b3, fun e => by rw [b4 (by rw [a4 e]; exact e), a4 e], by omega, b6⟩
theorem PF.mono (a : PF N W h h') (hw : ∀ k, W k → V k) : PF N V h h' := ⟨fun o k e e2_w e3_w => a.1 o k e (fun z z2 => e2_w z (hw k z2)) e3_w, a.2⟩
/-- what PK asks_w, from the frame_w -/
theorem PF.pt (hp : PT N h) (a : PF N W h h') : PT N h' := by
  obtain ⟨a1_w, a2, a3, a4, a5, a6⟩ := a
  obtain ⟨p1_w, p2_w, p3_w, p4_w, p5_w, p6_w, p7_w, p8_w⟩ := hp
  have e12_w : h' 182 12 = h 182 12 := a1_w 182 12 (fun _ => by decide) (fun z => absurd z (by decide)) (fun z => absurd z (by decide))
  refine ⟨a2, by omega, a6, p4_w, ?_, by omega, by omega, fun i hi_w hs => ?_⟩
  · rw [a1_w 184 N (fun z => absurd z (by decide)) (fun z => absurd z (by decide)) (fun z => absurd z (by decide))]
    exact p5_w
  · rw [a1_w 184 i (fun z => absurd z (by decide)) (fun z => absurd z (by decide)) (fun z => absurd z (by decide))] at hs
    rw [a1_w 186 i (fun z => absurd z (by decide)) (fun z => absurd z (by decide)) (fun z => absurd z (by decide))]
    exact p8_w i hi_w hs
theorem DG.up (hQ : QK P (r_T 0) (RJ P) h) (hd_w : DG h) (e1_w : h' 188 96 = h 188 96) (e2_w : h' 188 98 = h 188 98) (em : ∀ m : Nat, (m : Int) < h 188 98 → h' 188 (169 + 3 * m) = h 188 (169 + 3 * m)) (ec : ∀ c : Nat, (c : Int) < h 188 96 → h' 188 (113 + 14 * c) = h 188 (113 + 14 * c)) : DG h' := by
  refine ⟨fun m hm_w => ?_, fun c hc_w => ?_⟩
  · rw [e2_w] at hm_w
    rw [e1_w]
    have k := hd_w.1 m hm_w
    have e := em m hm_w
    rw [show 95 + (74 + 3 * m) = 169 + 3 * m by omega] at k ⊢
    rw [e]
    exact k
  · rw [e1_w] at hc_w
    have k := hd_w.2 c hc_w
    have e := ec c hc_w
    rw [show 95 + (18 + 14 * c) = 113 + 14 * c by omega] at k ⊢
    rw [e]
    exact k
theorem g_207 : G207 g (evF xs L ck K cW g_M (n + 1)) := fun h a a0_w a1_w => by
  suffices hs : ∃ r h', evF xs L ck K cW g_M (n + 1) 207 [182, a] ((a_g3, g), h) = some (1, r, ((a_g3, g), h')) ∧ r = [h 188 (95 + a.toNat)] ∧ h' = h by
    obtain ⟨r, h', e1_w, rfl, rfl⟩ := hs
    exact e1_w
  refine tr_of gm_207 (B := fun r h' => r = [h 188 (95 + a.toNat)] ∧ h' = h) ?_
  show wS _ _ K bb_207 [182, a] h _
  generalize evF xs L ck K cW g_M n = F
  unfold bb_207
  simp only [wf_4, wf_40, wf_5, wf_50, wf_6, wl_1, wt_1, wu_1, wa_1, wl_4, wt_4, wu_4, wa_4, wl_5, wt_5, wu_5, wa_5, wl_6, wt_6, wu_6, wa_6, wl_9, wt_9, wu_9, wa_9, wl_10, wt_10, wu_10, wa_10, wl_11, wt_11, wu_11, wa_11, wl_13, wt_13, wu_13, wa_13, wl_14, wt_14, wu_14, wa_14, wl_15, wt_15, wu_15, wa_15, wl_16, wt_16, wu_16, wa_16, wl_17, wt_17, wu_17, wa_17, wl_20, wt_20, wu_20, wa_20, wl_21, wt_21, wu_21, wa_21, wl_22, wt_22, wu_22, wa_22, wl_23, wt_23, wu_23, wa_23, wl_24, wt_24, wu_24, wa_24, wl_26, wt_26, wu_26, wa_26, wl_27, wt_27, wu_27, wa_27, wl_28, wt_28, wu_28, wa_28, we_1, we_3, we_10, we_14, we_15, we_16, we_17, we_18, we_20, we_21, we_22, we_24, we_25, we_26, we_27, we_28, we_30, we_31, we_32, wc_20, wc_21, wc_22, wc_24, wc_25, wc_26, wc_27, wc_3, wc_4, wc_7, wc_28, wc_32, ws_1, ws_2, ws_3, ws_4, ws_9, ws_10, ws_11, ws_14, ws_15, ws_16, ws_27, ws_17, ws_20, ws_28, kc_0, kc_1, kn_1, kc_2, kn_2, kc_3, kc_4, kc_5, kc_6, kc_7, kc_8, kc_9, kc_10, kc_12, kc_13, kc_14, kc_16, kc_17, kc_18, kc_19, kc_20, kc_21, kc_22, kc_24, kc_28, kc_30, kc_32, kc_37, kc_40, kc_41, kc_42, kc_43, kc_45, kc_48, kc_56, kc_57, kc_59, kc_60, kc_61, kc_64, kc_73, kc_78, kc_91, kc_95, kc_96, kc_97, kc_98, kc_99, kc_100, kc_112, kc_122, kc_125, kc_126, kc_150, kc_162, kc_163, kc_168, kc_186, kc_190, kc_200, kc_250, kc_255, kc_355, kc_356, kc_404, kc_405, kc_429, kc_573, kc_999, kc_1000, kc_1002, kc_1100, kc_1891, kc_2200, kc_4719, kc_4869, kc_4881, kc_5148, kc_9999, kn_9999, kc_10000, kc_12345, kc_19741, kc_25433, kc_65536, kc_320403, kc_628412, kc_629093, kc_660401, kc_679843, kc_918640, kc_979410, kc_1178088, kc_6232410, kc_24644941, kc_36238189, kc_38270444, kc_392531318, kc_425693491, kc_1103515245, kc_1342154595, kc_2147483648, kc_42328242873, kc_891704255789, kc_1722105685577, kc_1858726030364, ct_0, ct_1, ct_2, ct_3, ct_4, ct_5, cf_0, cf_1, cf_2, cf_3, cf_4, cf_5, w_ty6, w_ty7, m_sv, m_z0, m_hd, m_g0, m_gs, m_s0, m_ss, m_ap, m_an, forall_const, true_and, and_true, ne_eq, not_true_eq_false, not_false_eq_true, false_implies, true_implies, implies_true, eq_self, reduceCtorEq, Nat.reduceDiv, Nat.reduceMod, Int.reduceToNat, or_true, true_or, or_false, false_or, or_self, m_it, m_if, m_c1, m_01, m_02, m_03, m_04, m_10, m_12, m_13, m_14, m_20, m_21, m_23, m_24, m_30, m_31, m_32, m_34, m_40, m_41, m_42, m_43]
  rw [jadd (x := 95) (y := a) (by omega) (by omega), show (95 + a).toNat = 95 + a.toNat by omega]
  exact ⟨⟨by omega, by omega⟩, rfl⟩
end PAR8
/-- a word that may_w be told_w once alone_w -/
def G209 (P : Int × Int) (N : Nat) (g : Nat × Nat) (F : XP) : Prop := ∀ (h : XH) (k : Int), PK P N h → h 182 8 = 0 → h 184 (h 182 7).toNat ≠ 0 → 0 ≤ k → k ≤ 2 → ∃ v h', F 209 [182, k] ((a_g3, g), h) = some (1, [v], ((a_g3, g), h')) ∧ PK P N h' ∧ PF N (fun i => i = 186) h h' ∧ (v ≠ 0 → h' 182 7 = h 182 7 + 1 ∧ h' 182 8 = 0) ∧ (v = 0 → h' 182 8 ≠ 0)
/-- a new_w name_w -/
def G208 (P : Int × Int) (N : Nat) (g : Nat × Nat) (F : XP) : Prop := ∀ (h : XH) (a b c : Int), PK P N h → h 182 8 = 0 → h 184 (h 182 7).toNat ≠ 0 → 0 ≤ a → 0 ≤ b → b ≤ c → a + c ≤ 14 → ∃ h', F 208 [182, a, b, c] ((a_g3, g), h) = some (1, [], ((a_g3, g), h')) ∧ PK P N h' ∧ PF N (fun _ => False) h h' ∧ (h' 182 8 = 0 → b < c)
section PAR9
variable {P : Int × Int} {N : Nat} {g : Nat × Nat} {xs : Nat → Int} {L K n : Nat} {ck : Nat → List Nat} {cW : Nat → Nat → Int} {h h' h1 h2 : XH} {F : XP}
theorem g_209 (c191 : G191 P N g (evF xs L ck K cW g_M n)) (c207 : G207 g (evF xs L ck K cW g_M n)) : G209 P N g (evF xs L ck K cW g_M (n + 1)) := fun h k hp f0_w ht k0_w k2 => by
  suffices hs : ∃ r h', evF xs L ck K cW g_M (n + 1) 209 [182, k] ((a_g3, g), h) = some (1, r, ((a_g3, g), h')) ∧ ∃ v, r = [v] ∧ PK P N h' ∧ PF N (fun i => i = 186) h h' ∧ (v ≠ 0 → h' 182 7 = h 182 7 + 1 ∧ h' 182 8 = 0) ∧ (v = 0 → h' 182 8 ≠ 0) by
    obtain ⟨r, h', e1_w, v, rfl, e2_w⟩ := hs
    exact ⟨v, h', e1_w, e2_w⟩
  refine tr_of gm_209 (B := fun r h' => ∃ v, r = [v] ∧ PK P N h' ∧ PF N (fun i => i = 186) h h' ∧ (v ≠ 0 → h' 182 7 = h 182 7 + 1 ∧ h' 182 8 = 0) ∧ (v = 0 → h' 182 8 ≠ 0)) ?_
  show wS _ _ K bb_209 [182, k] h _
  generalize evF xs L ck K cW g_M n = F at c191 c207 ⊢
  unfold bb_209
  simp only [wf_4, wf_40, wf_5, wf_50, wf_6, wl_1, wt_1, wu_1, wa_1, wl_4, wt_4, wu_4, wa_4, wl_5, wt_5, wu_5, wa_5, wl_6, wt_6, wu_6, wa_6, wl_9, wt_9, wu_9, wa_9, wl_10, wt_10, wu_10, wa_10, wl_11, wt_11, wu_11, wa_11, wl_13, wt_13, wu_13, wa_13, wl_14, wt_14, wu_14, wa_14, wl_15, wt_15, wu_15, wa_15, wl_16, wt_16, wu_16, wa_16, wl_17, wt_17, wu_17, wa_17, wl_20, wt_20, wu_20, wa_20, wl_21, wt_21, wu_21, wa_21, wl_22, wt_22, wu_22, wa_22, wl_23, wt_23, wu_23, wa_23, wl_24, wt_24, wu_24, wa_24, wl_26, wt_26, wu_26, wa_26, wl_27, wt_27, wu_27, wa_27, wl_28, wt_28, wu_28, wa_28, we_1, we_3, we_10, we_14, we_15, we_16, we_17, we_18, we_20, we_21, we_22, we_24, we_25, we_26, we_27, we_28, we_30, we_31, we_32, wc_20, wc_21, wc_22, wc_24, wc_25, wc_26, wc_27, wc_3, wc_4, wc_7, wc_28, wc_32, ws_1, ws_2, ws_3, ws_4, ws_9, ws_10, ws_11, ws_14, ws_15, ws_16, ws_27, ws_17, ws_20, ws_28, kc_0, kc_1, kn_1, kc_2, kn_2, kc_3, kc_4, kc_5, kc_6, kc_7, kc_8, kc_9, kc_10, kc_12, kc_13, kc_14, kc_16, kc_17, kc_18, kc_19, kc_20, kc_21, kc_22, kc_24, kc_28, kc_30, kc_32, kc_37, kc_40, kc_41, kc_42, kc_43, kc_45, kc_48, kc_56, kc_57, kc_59, kc_60, kc_61, kc_64, kc_73, kc_78, kc_91, kc_95, kc_96, kc_97, kc_98, kc_99, kc_100, kc_112, kc_122, kc_125, kc_126, kc_150, kc_162, kc_163, kc_168, kc_186, kc_190, kc_200, kc_250, kc_255, kc_355, kc_356, kc_404, kc_405, kc_429, kc_573, kc_999, kc_1000, kc_1002, kc_1100, kc_1891, kc_2200, kc_4719, kc_4869, kc_4881, kc_5148, kc_9999, kn_9999, kc_10000, kc_12345, kc_19741, kc_25433, kc_65536, kc_320403, kc_628412, kc_629093, kc_660401, kc_679843, kc_918640, kc_979410, kc_1178088, kc_6232410, kc_24644941, kc_36238189, kc_38270444, kc_392531318, kc_425693491, kc_1103515245, kc_1342154595, kc_2147483648, kc_42328242873, kc_891704255789, kc_1722105685577, kc_1858726030364, ct_0, ct_1, ct_2, ct_3, ct_4, ct_5, cf_0, cf_1, cf_2, cf_3, cf_4, cf_5, w_ty6, w_ty7, m_sv, m_z0, m_hd, m_g0, m_gs, m_s0, m_ss, m_ap, m_an, forall_const, true_and, and_true, ne_eq, not_true_eq_false, not_false_eq_true, false_implies, true_implies, implies_true, eq_self, reduceCtorEq, Nat.reduceDiv, Nat.reduceMod, Int.reduceToNat, or_true, true_or, or_false, false_or, or_self, m_it, m_if, m_c1, m_01, m_02, m_03, m_04, m_10, m_12, m_13, m_14, m_20, m_21, m_23, m_24, m_30, m_31, m_32, m_34, m_40, m_41, m_42, m_43]
  refine ⟨_, h, c207 h 91 (by decide) (by decide), fun _ => ?_, fun _ => ⟨⟨by decide, by decide⟩, ?_⟩⟩
  · obtain ⟨h1, e1_w, e2_w, e3_w, e4_w, -⟩ := c191 h 3 hp (by decide) (by decide)
    exact ⟨[], h1, e1_w, 0, rfl, hp.pa e2_w, e2_w.pf, fun z => absurd rfl z, fun _ => e4_w⟩
  · generalize hw : j_iop 4 (h 188 186) (j_iop 6 1 k) = w
    have hin : InI w := by
      rw [← hw]
      exact iop_in 4 _ _
    have q1_w : QK P (r_T 0) (RJ P) (j_up h 188 186 w) := dw_QK hp.1 (ht_up hp.1.1 (by decide) hin) (Or.inl ⟨rfl, by decide⟩) (g_fit_ok (lo_w := 186) (hi_w := 187) (t := (1, (-2147483648), 2147483647)) (by decide +kernel) (by decide) (by decide) (IV.top hin))
    have e1_w : PF N (fun i => i = 186) h (j_up h 188 186 w) := ⟨fun o i e e2_w e3_w => up_ne (fun z => e2_w z.1 z.2), by rw [up_ne (fun z => absurd z.1 (by decide))]; exact hp.2.1.1, by rw [up_ne (fun z => absurd z.1 (by decide))]; exact ht_fld hp.1 rfl, fun _ => up_ne (fun z => absurd z.1 (by decide)), by rw [up_ne (fun z => absurd z.1 (by decide))]; exact Int.le_refl _, by rw [up_ne (fun z => absurd z.1 (by decide))]; exact hp.2.1.2.2.1⟩
    have p1_w : PK P N (j_up h 188 186 w) := ⟨q1_w, e1_w.pt hp.2.1, DG.up hp.1 hp.2.2 (up_ne (fun z => absurd z.2 (by decide))) (up_ne (fun z => absurd z.2 (by decide))) (fun m _ => up_ne (fun z => by have := z.2; omega)) (fun m _ => up_ne (fun z => by have := z.2; omega))⟩
    have e7_w : j_up h 188 186 w 182 7 = h 182 7 := up_ne (fun z => absurd z.1 (by decide))
    have e8 : j_up h 188 186 w 182 8 = h 182 8 := up_ne (fun z => absurd z.1 (by decide))
    have t1_w : j_up h 188 186 w 184 (j_up h 188 186 w 182 7).toNat ≠ 0 := by
      rw [e7_w, up_ne (fun z => absurd z.1 (by decide))]
      exact ht
    have n1_w := PA.next p1_w t1_w
    rw [jat p1_w]
    exact ⟨1, rfl, p1_w.pa n1_w, e1_w.tr n1_w.pf, fun _ => ⟨by rw [up_eq, e7_w], by rw [up_ne (fun z => absurd z.2 (by decide)), e8]; exact f0_w⟩, fun z => absurd z (by decide)⟩
end PAR9
end
section
/-! ===== the reference's parser: a new_w name_w ===== -/
section PARA
variable {P : Int × Int} {N : Nat} {g : Nat × Nat} {xs : Nat → Int} {L K n : Nat} {ck : Nat → List Nat} {cW : Nat → Nat → Int} {h h' h1 h2 : XH} {F : XP}
/-- the name_w is_w laid_w down_w, and one goes_w on_w -/
theorem nm_QK (hp : PK P N h) (ht : h 184 (h 182 7).toNat ≠ 0) {i : Nat} (hi_w : 14 ≤ i) : PK P N (atp (j_up h 190 i (h 186 (h 182 7).toNat))) ∧ PF N (fun _ => False) h (atp (j_up h 190 i (h 186 (h 182 7).toNat))) := by
  have hl : InL (h 186 (h 182 7).toNat) := ht_long hp.1.1 (by decide) _
  generalize h 186 (h 182 7).toNat = v at hl ⊢
  have q1_w : QK P (r_T 0) (RJ P) (j_up h 190 i v) := dw_QK hp.1 (ht_upL hp.1.1 (by decide) hl) (Or.inr (Or.inr (Or.inl rfl))) (fun r hr _ _ => IV.sub (List.all_eq_true.mp (show (r_A 190).2.2.all (fun r => i_sub (2, (-9223372036854775808), 9223372036854775807) r.2.2) = true by decide +kernel) r hr) (IV.topL hl))
  have e1_w : PF N (fun _ => False) h (j_up h 190 i v) := ⟨fun o k e e2_w e3_w => up_ne (fun z => by have := e3_w z.1; omega), by rw [up_ne (fun z => absurd z.1 (by decide))]; exact hp.2.1.1, by rw [up_ne (fun z => absurd z.1 (by decide))]; exact ht_fld hp.1 rfl, fun _ => up_ne (fun z => absurd z.1 (by decide)), by rw [up_ne (fun z => absurd z.1 (by decide))]; exact Int.le_refl _, by rw [up_ne (fun z => absurd z.1 (by decide))]; exact hp.2.1.2.2.1⟩
  have p1_w : PK P N (j_up h 190 i v) := ⟨q1_w, e1_w.pt hp.2.1, DG.up hp.1 hp.2.2 (up_ne (fun z => absurd z.1 (by decide))) (up_ne (fun z => absurd z.1 (by decide))) (fun m _ => up_ne (fun z => absurd z.1 (by decide))) (fun m _ => up_ne (fun z => absurd z.1 (by decide)))⟩
  have t1_w : j_up h 190 i v 184 (j_up h 190 i v 182 7).toNat ≠ 0 := by
    rw [up_ne (fun z => absurd z.1 (by decide)), up_ne (fun z => absurd z.1 (by decide))]
    exact ht
  have n1_w := PA.next p1_w t1_w
  exact ⟨p1_w.pa n1_w, e1_w.tr n1_w.pf⟩
def B208 (P : Int × Int) (N : Nat) (h : XH) (b c : Int) (r : List Int) (h' : XH) : Prop := r = [] ∧ PK P N h' ∧ PF N (fun _ => False) h h' ∧ (h' 182 8 = 0 → b < c)
theorem g_208 (c191 : G191 P N g (evF xs L ck K cW g_M n)) (c203 : G203 P N g (evF xs L ck K cW g_M n)) (c204 : G204 P N g (evF xs L ck K cW g_M n)) (c207 : G207 g (evF xs L ck K cW g_M n)) : G208 P N g (evF xs L ck K cW g_M (n + 1)) := fun h a b c hp f0_w ht a0_w b0 bc ac => by
  suffices hs : ∃ r h', evF xs L ck K cW g_M (n + 1) 208 [182, a, b, c] ((a_g3, g), h) = some (1, r, ((a_g3, g), h')) ∧ B208 P N h b c r h' by
    obtain ⟨r, h', e1_w, rfl, e2_w⟩ := hs
    exact ⟨h', e1_w, e2_w⟩
  refine tr_of gm_208 ?_
  show wS _ _ K bb_208 [182, a, b, c] h _
  generalize evF xs L ck K cW g_M n = F at c191 c203 c204 c207 ⊢
  unfold bb_208
  simp only [wf_4, wf_40, wf_5, wf_50, wf_6, wl_1, wt_1, wu_1, wa_1, wl_4, wt_4, wu_4, wa_4, wl_5, wt_5, wu_5, wa_5, wl_6, wt_6, wu_6, wa_6, wl_9, wt_9, wu_9, wa_9, wl_10, wt_10, wu_10, wa_10, wl_11, wt_11, wu_11, wa_11, wl_13, wt_13, wu_13, wa_13, wl_14, wt_14, wu_14, wa_14, wl_15, wt_15, wu_15, wa_15, wl_16, wt_16, wu_16, wa_16, wl_17, wt_17, wu_17, wa_17, wl_20, wt_20, wu_20, wa_20, wl_21, wt_21, wu_21, wa_21, wl_22, wt_22, wu_22, wa_22, wl_23, wt_23, wu_23, wa_23, wl_24, wt_24, wu_24, wa_24, wl_26, wt_26, wu_26, wa_26, wl_27, wt_27, wu_27, wa_27, wl_28, wt_28, wu_28, wa_28, we_1, we_3, we_10, we_14, we_15, we_16, we_17, we_18, we_20, we_21, we_22, we_24, we_25, we_26, we_27, we_28, we_30, we_31, we_32, wc_20, wc_21, wc_22, wc_24, wc_25, wc_26, wc_27, wc_3, wc_4, wc_7, wc_28, wc_32, ws_1, ws_2, ws_3, ws_4, ws_9, ws_10, ws_11, ws_14, ws_15, ws_16, ws_27, ws_17, ws_20, ws_28, kc_0, kc_1, kn_1, kc_2, kn_2, kc_3, kc_4, kc_5, kc_6, kc_7, kc_8, kc_9, kc_10, kc_12, kc_13, kc_14, kc_16, kc_17, kc_18, kc_19, kc_20, kc_21, kc_22, kc_24, kc_28, kc_30, kc_32, kc_37, kc_40, kc_41, kc_42, kc_43, kc_45, kc_48, kc_56, kc_57, kc_59, kc_60, kc_61, kc_64, kc_73, kc_78, kc_91, kc_95, kc_96, kc_97, kc_98, kc_99, kc_100, kc_112, kc_122, kc_125, kc_126, kc_150, kc_162, kc_163, kc_168, kc_186, kc_190, kc_200, kc_250, kc_255, kc_355, kc_356, kc_404, kc_405, kc_429, kc_573, kc_999, kc_1000, kc_1002, kc_1100, kc_1891, kc_2200, kc_4719, kc_4869, kc_4881, kc_5148, kc_9999, kn_9999, kc_10000, kc_12345, kc_19741, kc_25433, kc_65536, kc_320403, kc_628412, kc_629093, kc_660401, kc_679843, kc_918640, kc_979410, kc_1178088, kc_6232410, kc_24644941, kc_36238189, kc_38270444, kc_392531318, kc_425693491, kc_1103515245, kc_1342154595, kc_2147483648, kc_42328242873, kc_891704255789, kc_1722105685577, kc_1858726030364, ct_0, ct_1, ct_2, ct_3, ct_4, ct_5, cf_0, cf_1, cf_2, cf_3, cf_4, cf_5, w_ty6, w_ty7, m_sv, m_z0, m_hd, m_g0, m_gs, m_s0, m_ss, m_ap, m_an, forall_const, true_and, and_true, ne_eq, not_true_eq_false, not_false_eq_true, false_implies, true_implies, implies_true, eq_self, reduceCtorEq, Nat.reduceDiv, Nat.reduceMod, Int.reduceToNat, or_true, true_or, or_false, false_or, or_self, m_it, m_if, m_c1, m_01, m_02, m_03, m_04, m_10, m_12, m_13, m_14, m_20, m_21, m_23, m_24, m_30, m_31, m_32, m_34, m_40, m_41, m_42, m_43]
  rw [jat hp]
  have n1_w := PA.next hp ht
  have hpa : PK P N (atp h) := hp.pa n1_w
  have fa : atp h 182 8 = 0 := atp_8.trans f0_w
  have ba_w : 0 ≤ h 182 7 ∧ h 182 7 < 1002 := by
    have t2_w := hp.2.1.2.1
    have t3_w := hp.2.1.2.2.1
    have t4_w := hp.2.1.2.2.2.1
    exact ⟨t2_w, by omega⟩
  -- a fault
  have bad_w : ∀ {w : Int} {h2 : XH} {X : Prop}, PA N (atp h) h2 → h2 182 8 ≠ 0 → (h2 182 8 = 0 → X) ∧ (¬h2 182 8 = 0 → B208 P N h b c [] h2) := fun e2_w e4_w => ⟨fun z => absurd z e4_w, fun _ => ⟨rfl, hpa.pa e2_w, (n1_w.pf).tr e2_w.pf, fun z => absurd z e4_w⟩⟩
  refine ⟨fun _ => ?_, fun hbc => ?_⟩
  · obtain ⟨h1, e1_w, e2_w, e3_w, e4_w, -⟩ := c191 h 5 hp (by decide) (by decide)
    exact ⟨[], h1, e1_w, rfl, hp.pa e2_w, e2_w.pf, fun z => absurd z e4_w⟩
  have ji : j_iop 0 (j_iop 0 14 a) b = 14 + a + b := by
    rw [jadd (x := 14) (y := a) (by omega) (by omega), jadd (by omega) (by omega)]
  rw [ji]
  obtain ⟨v, d1_w, d2_w, d3_w⟩ := c203 (atp h) hpa
  have r1_w : 0 ≤ h 188 96 ∧ h 188 96 ≤ 4 := by
    have k : IV P (1, 0, 4) (h 188 96) := q_cell hp.1 (q := 188) (r := 26) (x := (96, 97, (1, 0, 4))) (by decide) rfl rfl (by decide) (by decide)
    exact ⟨k.1, k.2.1⟩
  have r2 : 0 ≤ h 188 97 ∧ h 188 97 ≤ 4 := by
    have k : IV P (1, 0, 4) (h 188 97) := q_cell hp.1 (q := 188) (r := 27) (x := (97, 98, (1, 0, 4))) (by decide) rfl rfl (by decide) (by decide)
    exact ⟨k.1, k.2.1⟩
  have r3 : 0 ≤ h 188 98 ∧ h 188 98 ≤ 6 := by
    have k : IV P (1, 0, 6) (h 188 98) := q_cell hp.1 (q := 188) (r := 28) (x := (98, 99, (1, 0, 6))) (by decide) rfl rfl (by decide) (by decide)
    exact ⟨k.1, k.2.1⟩
  have a188 : ∀ i, atp h 188 i = h 188 i := fun i => up_ne (fun z => absurd z.1 (by decide))
  rw [← a188] at r1_w r2 r3
  obtain ⟨h3, x1_w, x2_w, x3, x4_w, -⟩ := c191 (atp h) 3 hpa (by decide) (by decide)
  obtain ⟨u1, y1, -⟩ := c204 (atp h) 14 _ hpa (by decide) r1_w.1 (by omega)
  obtain ⟨u2_w, y2, -⟩ := c204 (atp h) 18 _ hpa (by decide) r2.1 (by omega)
  obtain ⟨u3, y3, -⟩ := c204 (atp h) 22 _ hpa (by decide) r3.1 (by omega)
  refine ⟨[v], _, d1_w, fun k => ⟨_, _, c207 (atp h) 1 (by decide) (by decide), [u1], _, y1, fun _ => ⟨[], h3, x1_w, bad_w (w := 0) x2_w x4_w⟩, fun _ => ⟨_, _, c207 (atp h) 2 (by decide) (by decide), [u2_w], _, y2, fun _ => ⟨[], h3, x1_w, bad_w (w := 0) x2_w x4_w⟩, fun _ => ⟨_, _, c207 (atp h) 3 (by decide) (by decide), [u3], _, y3, fun _ => ⟨[], h3, x1_w, bad_w (w := 0) x2_w x4_w⟩, fun _ => ⟨fun _ => ?_, fun z => absurd fa z⟩⟩⟩⟩, fun k => ?_⟩
  · have tt := d3_w.mp k
    have b2 : 0 ≤ atp h 182 7 ∧ atp h 182 7 < 1002 := by
      have t2_w := hpa.2.1.2.1
      have t3_w := hpa.2.1.2.2.1
      have t4_w := hpa.2.1.2.2.2.1
      exact ⟨t2_w, by omega⟩
    obtain ⟨z1, z2⟩ := nm_QK hpa (i := (14 + a + b).toNat) (by rw [tt.2.1]; decide) (by omega)
    refine ⟨b2, ⟨by omega, by omega⟩, ?_⟩
    have e7_w : j_iop 0 (j_up (atp h) 190 (14 + a + b).toNat (atp h 186 (atp h 182 7).toNat) 182 7) 1 = j_up (atp h) 190 (14 + a + b).toNat (atp h 186 (atp h 182 7).toNat) 182 7 + 1 := by
      rw [up_ne (fun z => absurd z.1 (by decide))]
      exact jat hpa
    show B208 P N h b c [] _
    exact (congrArg (fun w => B208 P N h b c [] (j_up (j_up (atp h) 190 (14 + a + b).toNat (atp h 186 (atp h 182 7).toNat)) 182 7 w)) e7_w).mpr ⟨rfl, z1, n1_w.pf.tr z2, fun _ => by omega⟩
  · obtain ⟨h4, x1_w, x2_w, x3, x4_w, -⟩ := c191 (atp h) 1 hpa (by decide) (by decide)
    exact ⟨[], h4, x1_w, bad_w (w := 0) x2_w x4_w⟩
end PARA
end
section
/-! ===== the reference's parser: one to twelve_w numbers_w ===== -/
def RowOK (P : Int × Int) (h : XH) (a m : Int) : Prop := 95 ≤ a ∧ a ≤ 178 ∧ 0 ≤ m ∧ m ≤ 9999 ∧ (∀ (i : Nat) (v : Int), a ≤ (i : Int) → (i : Int) < a + 12 → 0 ≤ v → v ≤ m → ∀ r ∈ (r_A 188).2.2, r.1 ≤ i → i < r.2.1 → IV P r.2.2 v) ∧ (∀ i : Nat, a ≤ (i : Int) → (i : Int) < a + 12 → i ≠ 96 ∧ i ≠ 98 ∧ (∀ k : Nat, i ≠ 169 + 3 * k ∨ h 188 98 ≤ (k : Int)) ∧ ∀ k : Nat, i ≠ 113 + 14 * k ∨ h 188 96 ≤ (k : Int))
def WR12 (a : Int) (i : Nat) : Prop := a ≤ (i : Int) ∧ (i : Int) < a + 12
def G211 (P : Int × Int) (N : Nat) (g : Nat × Nat) (F : XP) : Prop := ∀ (h : XH) (a m : Int), PK P N h → h 182 8 = 0 → RowOK P h a m → ∃ v h', F 211 [182, a, m] ((a_g3, g), h) = some (1, [v], ((a_g3, g), h')) ∧ PK P N h' ∧ PF N (WR12 a) h h' ∧ InI v ∧ (h' 182 8 = 0 → 1 ≤ v ∧ v ≤ 12)
section PARB
variable {P : Int × Int} {N : Nat} {g : Nat × Nat} {xs : Nat → Int} {L K n : Nat} {ck : Nat → List Nat} {cW : Nat → Nat → Int} {h h' h1 h2 : XH} {F : XP}
theorem pf_same {W : Nat → Prop} {o k : Nat} (a : PF N W h h') (h1 : o ≠ 182) (h2 : o ≠ 188) (h3 : o ≠ 190) : h' o k = h o k := a.1 o k (fun z => absurd z h1) (fun z => absurd z h2) (fun z => absurd z h3)
theorem pf_g {W : Nat → Prop} {k : Nat} (a : PF N W h h') (h1 : ¬W k) : h' 188 k = h 188 k := a.1 188 k (fun z => absurd z (by decide)) (fun _ => h1) (fun z => absurd z (by decide))
/-- a cell_w of a row is_w drafted -/
theorem rw_QK (hp : PK P N h) {a m v : Int} {i : Nat} (hr : RowOK P h a m) (hi_w : WR12 a i) (v0_w : 0 ≤ v) (v1_w : v ≤ m) : PK P N (j_up h 188 i v) ∧ PF N (WR12 a) h (j_up h 188 i v) := by
  obtain ⟨r1_w, r2, r3, r4, r5_w, r6⟩ := hr
  obtain ⟨s1_w, s2_w, s3_w, s4_w⟩ := r6 i hi_w.1 hi_w.2
  have hi1 := hi_w.1
  have q1_w : QK P (r_T 0) (RJ P) (j_up h 188 i v) := dw_QK hp.1 (ht_up hp.1.1 (by decide) ⟨by omega, by omega⟩) (Or.inl ⟨rfl, by omega⟩) (r5_w i v hi_w.1 hi_w.2 v0_w v1_w)
  have e1_w : PF N (WR12 a) h (j_up h 188 i v) := ⟨fun o k e e2_w e3_w => up_ne (fun z => e2_w z.1 (by rw [z.2]; exact hi_w)), by rw [up_ne (fun z => absurd z.1 (by decide))]; exact hp.2.1.1, by rw [up_ne (fun z => absurd z.1 (by decide))]; exact ht_fld hp.1 rfl, fun _ => up_ne (fun z => absurd z.1 (by decide)), by rw [up_ne (fun z => absurd z.1 (by decide))]; exact Int.le_refl _, by rw [up_ne (fun z => absurd z.1 (by decide))]; exact hp.2.1.2.2.1⟩
  exact ⟨⟨q1_w, e1_w.pt hp.2.1, DG.up hp.1 hp.2.2 (up_ne (fun z => s1_w z.2.symm)) (up_ne (fun z => s2_w z.2.symm)) (fun k hk => up_ne (fun z => by have := s3_w k; have := z.2; omega)) (fun k hk => up_ne (fun z => by have := s4_w k; have := z.2; omega))⟩, e1_w⟩
theorem RowOK.pf {a m : Int} (hr : RowOK P h a m) (e : PF N (WR12 a) h h') : RowOK P h' a m := by
  obtain ⟨r1_w, r2, r3, r4, r5_w, r6⟩ := hr
  refine ⟨r1_w, r2, r3, r4, r5_w, fun i h1 h2 => ?_⟩
  have e96 : h' 188 96 = h 188 96 := pf_g e (fun z => absurd rfl (r6 96 z.1 z.2).1)
  have e98_w : h' 188 98 = h 188 98 := pf_g e (fun z => absurd rfl (r6 98 z.1 z.2).2.1)
  rw [e96, e98_w]
  exact r6 i h1 h2
def B211 (P : Int × Int) (N : Nat) (h : XH) (a : Int) (r : List Int) (h' : XH) : Prop := ∃ v, r = [v] ∧ PK P N h' ∧ PF N (WR12 a) h h' ∧ InI v ∧ (h' 182 8 = 0 → 1 ≤ v ∧ v ≤ 12)
theorem g_211 (hK_w : 4294967300 ≤ K) (c191 : G191 P N g (evF xs L ck K cW g_M n)) (c200 : G200 P N g (evF xs L ck K cW g_M n)) : G211 P N g (evF xs L ck K cW g_M (n + 1)) := fun h a m hp f0_w hr => by
  suffices hs : ∃ r h', evF xs L ck K cW g_M (n + 1) 211 [182, a, m] ((a_g3, g), h) = some (1, r, ((a_g3, g), h')) ∧ B211 P N h a r h' by
    obtain ⟨r, h', e1_w, v, rfl, e2_w⟩ := hs
    exact ⟨v, h', e1_w, e2_w⟩
  refine tr_of gm_211 ?_
  show wS _ _ K bb_211 [182, a, m, 0, 0] h _
  generalize evF xs L ck K cW g_M n = F at c191 c200 ⊢
  unfold bb_211
  simp only [wf_4, wf_40, wf_5, wf_50, wf_6, wl_1, wt_1, wu_1, wa_1, wl_4, wt_4, wu_4, wa_4, wl_5, wt_5, wu_5, wa_5, wl_6, wt_6, wu_6, wa_6, wl_9, wt_9, wu_9, wa_9, wl_10, wt_10, wu_10, wa_10, wl_11, wt_11, wu_11, wa_11, wl_13, wt_13, wu_13, wa_13, wl_14, wt_14, wu_14, wa_14, wl_15, wt_15, wu_15, wa_15, wl_16, wt_16, wu_16, wa_16, wl_17, wt_17, wu_17, wa_17, wl_20, wt_20, wu_20, wa_20, wl_21, wt_21, wu_21, wa_21, wl_22, wt_22, wu_22, wa_22, wl_23, wt_23, wu_23, wa_23, wl_24, wt_24, wu_24, wa_24, wl_26, wt_26, wu_26, wa_26, wl_27, wt_27, wu_27, wa_27, wl_28, wt_28, wu_28, wa_28, we_1, we_3, we_10, we_14, we_15, we_16, we_17, we_18, we_20, we_21, we_22, we_24, we_25, we_26, we_27, we_28, we_30, we_31, we_32, wc_20, wc_21, wc_22, wc_24, wc_25, wc_26, wc_27, wc_3, wc_4, wc_7, wc_28, wc_32, ws_1, ws_2, ws_3, ws_4, ws_9, ws_10, ws_11, ws_14, ws_15, ws_16, ws_27, ws_17, ws_20, ws_28, kc_0, kc_1, kn_1, kc_2, kn_2, kc_3, kc_4, kc_5, kc_6, kc_7, kc_8, kc_9, kc_10, kc_12, kc_13, kc_14, kc_16, kc_17, kc_18, kc_19, kc_20, kc_21, kc_22, kc_24, kc_28, kc_30, kc_32, kc_37, kc_40, kc_41, kc_42, kc_43, kc_45, kc_48, kc_56, kc_57, kc_59, kc_60, kc_61, kc_64, kc_73, kc_78, kc_91, kc_95, kc_96, kc_97, kc_98, kc_99, kc_100, kc_112, kc_122, kc_125, kc_126, kc_150, kc_162, kc_163, kc_168, kc_186, kc_190, kc_200, kc_250, kc_255, kc_355, kc_356, kc_404, kc_405, kc_429, kc_573, kc_999, kc_1000, kc_1002, kc_1100, kc_1891, kc_2200, kc_4719, kc_4869, kc_4881, kc_5148, kc_9999, kn_9999, kc_10000, kc_12345, kc_19741, kc_25433, kc_65536, kc_320403, kc_628412, kc_629093, kc_660401, kc_679843, kc_918640, kc_979410, kc_1178088, kc_6232410, kc_24644941, kc_36238189, kc_38270444, kc_392531318, kc_425693491, kc_1103515245, kc_1342154595, kc_2147483648, kc_42328242873, kc_891704255789, kc_1722105685577, kc_1858726030364, ct_0, ct_1, ct_2, ct_3, ct_4, ct_5, cf_0, cf_1, cf_2, cf_3, cf_4, cf_5, w_ty6, w_ty7, m_sv, m_z0, m_hd, m_g0, m_gs, m_s0, m_ss, m_ap, m_an, forall_const, true_and, and_true, ne_eq, not_true_eq_false, not_false_eq_true, false_implies, true_implies, implies_true, eq_self, reduceCtorEq, Nat.reduceDiv, Nat.reduceMod, Int.reduceToNat, or_true, true_or, or_false, false_or, or_self, m_it, m_if, m_c1, m_01, m_02, m_03, m_04, m_10, m_12, m_13, m_14, m_20, m_21, m_23, m_24, m_30, m_31, m_32, m_34, m_40, m_41, m_42, m_43]
  refine w_dp (fun en h' => (∃ k w : Int, en = [182, a, m, k, w] ∧ 0 ≤ k ∧ k ≤ 12) ∧ PK P N h' ∧ h' 182 8 = 0 ∧ PF N (WR12 a) h h') (fun _ h' => ((N : Int) - h' 182 7).toNat) ⟨⟨0, 0, rfl, by decide, by decide⟩, hp, f0_w, (PA.rf hp).pf⟩ ?_
  rintro en h1 ⟨⟨k, w, rfl, k0_w, k1_w⟩, hp1, f1_w, e1_w⟩
  refine ⟨?_, ?_⟩
  · show ((N : Int) - h1 182 7).toNat < K
    have n1_w := hp.2.1.2.2.2.1
    have n2_w := hp1.2.1.2.1
    omega
  have hr1 := hr.pf e1_w
  simp only [wf_4, wf_40, wf_5, wf_50, wf_6, wl_1, wt_1, wu_1, wa_1, wl_4, wt_4, wu_4, wa_4, wl_5, wt_5, wu_5, wa_5, wl_6, wt_6, wu_6, wa_6, wl_9, wt_9, wu_9, wa_9, wl_10, wt_10, wu_10, wa_10, wl_11, wt_11, wu_11, wa_11, wl_13, wt_13, wu_13, wa_13, wl_14, wt_14, wu_14, wa_14, wl_15, wt_15, wu_15, wa_15, wl_16, wt_16, wu_16, wa_16, wl_17, wt_17, wu_17, wa_17, wl_20, wt_20, wu_20, wa_20, wl_21, wt_21, wu_21, wa_21, wl_22, wt_22, wu_22, wa_22, wl_23, wt_23, wu_23, wa_23, wl_24, wt_24, wu_24, wa_24, wl_26, wt_26, wu_26, wa_26, wl_27, wt_27, wu_27, wa_27, wl_28, wt_28, wu_28, wa_28, we_1, we_3, we_10, we_14, we_15, we_16, we_17, we_18, we_20, we_21, we_22, we_24, we_25, we_26, we_27, we_28, we_30, we_31, we_32, wc_20, wc_21, wc_22, wc_24, wc_25, wc_26, wc_27, wc_3, wc_4, wc_7, wc_28, wc_32, ws_1, ws_2, ws_3, ws_4, ws_9, ws_10, ws_11, ws_14, ws_15, ws_16, ws_27, ws_17, ws_20, ws_28, kc_0, kc_1, kn_1, kc_2, kn_2, kc_3, kc_4, kc_5, kc_6, kc_7, kc_8, kc_9, kc_10, kc_12, kc_13, kc_14, kc_16, kc_17, kc_18, kc_19, kc_20, kc_21, kc_22, kc_24, kc_28, kc_30, kc_32, kc_37, kc_40, kc_41, kc_42, kc_43, kc_45, kc_48, kc_56, kc_57, kc_59, kc_60, kc_61, kc_64, kc_73, kc_78, kc_91, kc_95, kc_96, kc_97, kc_98, kc_99, kc_100, kc_112, kc_122, kc_125, kc_126, kc_150, kc_162, kc_163, kc_168, kc_186, kc_190, kc_200, kc_250, kc_255, kc_355, kc_356, kc_404, kc_405, kc_429, kc_573, kc_999, kc_1000, kc_1002, kc_1100, kc_1891, kc_2200, kc_4719, kc_4869, kc_4881, kc_5148, kc_9999, kn_9999, kc_10000, kc_12345, kc_19741, kc_25433, kc_65536, kc_320403, kc_628412, kc_629093, kc_660401, kc_679843, kc_918640, kc_979410, kc_1178088, kc_6232410, kc_24644941, kc_36238189, kc_38270444, kc_392531318, kc_425693491, kc_1103515245, kc_1342154595, kc_2147483648, kc_42328242873, kc_891704255789, kc_1722105685577, kc_1858726030364, ct_0, ct_1, ct_2, ct_3, ct_4, ct_5, cf_0, cf_1, cf_2, cf_3, cf_4, cf_5, w_ty6, w_ty7, m_sv, m_z0, m_hd, m_g0, m_gs, m_s0, m_ss, m_ap, m_an, forall_const, true_and, and_true, ne_eq, not_true_eq_false, not_false_eq_true, false_implies, true_implies, implies_true, eq_self, reduceCtorEq, Nat.reduceDiv, Nat.reduceMod, Int.reduceToNat, or_true, true_or, or_false, false_or, or_self, m_it, m_if, m_c1, m_01, m_02, m_03, m_04, m_10, m_12, m_13, m_14, m_20, m_21, m_23, m_24, m_30, m_31, m_32, m_34, m_40, m_41, m_42, m_43]
  obtain ⟨r1_w, r2, r3, r4, -, -⟩ := id hr
  have ink : InI k := ⟨by omega, by omega⟩
  obtain ⟨v, h2, x1_w, pa, iv_w, ok, ko⟩ := c200 h1 0 m hp1 ⟨by decide, by decide⟩ ⟨by omega, by omega⟩
  have p2_w : PK P N h2 := hp1.pa pa
  refine ⟨[v], h2, x1_w, fun z0 => ?_, fun z => ⟨fun y => absurd y z, fun _ => ⟨fun y => absurd y z, fun _ => ⟨k, rfl, p2_w, e1_w.tr pa.pf, ink, fun y => absurd y z⟩⟩⟩⟩
  obtain ⟨v0_w, v1_w, e2_w, -, hs, -⟩ := ok z0
  refine ⟨fun kk => ?_, fun kk => ⟨fun _ => ?_, fun y => absurd z0 y⟩⟩
  · have back : j_up h2 182 7 (j_iop 1 (h2 182 7) 1) = h1 := by
      rw [e2_w, show atp h1 182 7 = h1 182 7 + 1 from up_eq, jsub (by have := hp1.2.1.2.1; have := hp1.2.1.2.2.1; have := hp1.2.1.2.2.2.1; omega) (by have := hp1.2.1.2.1; have := hp1.2.1.2.2.1; have := hp1.2.1.2.2.2.1; omega), show h1 182 7 + 1 - 1 = h1 182 7 by omega]
      refine funext fun o => funext fun i => ?_
      by_cases e : o = 182 ∧ i = 7
      · obtain ⟨rfl, rfl⟩ := e
        exact up_eq
      · rw [up_ne e]
        exact up_ne e
    rw [back]
    obtain ⟨h3, y1, y2, y3, y4, -⟩ := c191 h1 5 hp1 (by decide) (by decide)
    exact ⟨[], h3, y1, fun y => absurd y y4, fun _ => ⟨fun y => absurd y y4, fun _ => ⟨k, rfl, hp1.pa y2, e1_w.tr y2.pf, ink, fun y => absurd y y4⟩⟩⟩
  · rw [jadd (x := a) (y := k) (by omega) (by omega), j32_in (v := k + 1) ⟨by omega, by omega⟩]
    obtain ⟨q1_w, q2_w⟩ := rw_QK p2_w (hr1.pf pa.pf) (i := (a + k).toNat) ⟨by omega, by omega⟩ v0_w v1_w
    have w7_w : j_up h2 188 (a + k).toNat v 182 7 = h1 182 7 + 1 := by
      rw [up_ne (fun z => absurd z.1 (by decide)), e2_w]
      exact up_eq
    have w8 : j_up h2 188 (a + k).toNat v 182 8 = 0 := by
      rw [up_ne (fun z => absurd z.1 (by decide))]
      exact z0
    have n0_w := q1_w.2.1.2.2.1
    have n1_w := q1_w.2.1.2.2.2.1
    have n2_w := hp1.2.1.2.1
    rw [w7_w] at n0_w
    refine ⟨⟨by omega, by omega⟩, fun _ => ⟨⟨?_, ?_⟩, fun _ => ⟨⟨⟨k + 1, v, rfl, by omega, by omega⟩, q1_w, w8, e1_w.tr (pa.pf.tr q2_w)⟩, ?_⟩, fun _ => ⟨k + 1, rfl, q1_w, e1_w.tr (pa.pf.tr q2_w), ⟨by omega, by omega⟩, fun _ => ⟨by omega, by omega⟩⟩⟩, fun y => absurd w8 y⟩
    · show 0 ≤ j_up h2 188 (a + k).toNat v 182 7
      rw [w7_w]
      omega
    · show j_up h2 188 (a + k).toNat v 182 7 < 1002
      rw [w7_w]
      omega
    · show ((N : Int) - j_up h2 188 (a + k).toNat v 182 7).toNat < ((N : Int) - h1 182 7).toNat
      rw [w7_w]
      omega
end PARB
end
section
/-! ===== the reference's parser: a class ===== -/
def NL (i : Nat) : Prop := i ≠ 99
def B212 (P : Int × Int) (N : Nat) (h : XH) (r : List Int) (h' : XH) : Prop := r = [] ∧ PK P N h' ∧ PF N NL h h'
def G212 (f : Nat) (P : Int × Int) (N : Nat) (g : Nat × Nat) (F : XP) : Prop := ∀ (h : XH), PK P N h → h 182 8 = 0 → h 184 (h 182 7).toNat ≠ 0 → ∃ h', F f [182] ((a_g3, g), h) = some (1, [], ((a_g3, g), h')) ∧ PK P N h' ∧ PF N NL h h'
theorem fit_c : ∀ m : Nat, m < 4 → g_fit (112 + 14 * m) (113 + 14 * m) (1, 0, 999) = true ∧ g_fit (113 + 14 * m) (114 + 14 * m) (1, 0, 12) = true ∧ g_fit (114 + 14 * m) (126 + 14 * m) (1, 0, 99) = true := by decide +kernel
theorem fit_m : ∀ m : Nat, m < 6 → g_fit (168 + 3 * m) (171 + 3 * m) (1, 0, 3) = true := by decide +kernel
section PARC
variable {P : Int × Int} {N : Nat} {g : Nat × Nat} {xs : Nat → Int} {L K n : Nat} {ck : Nat → List Nat} {cW : Nat → Nat → Int} {h h' h1 h2 : XH} {F : XP}
theorem r_96 (hQ : QK P (r_T 0) (RJ P) h) : 0 ≤ h 188 96 ∧ h 188 96 ≤ 4 := by
  have k : IV P (1, 0, 4) (h 188 96) := q_cell hQ (q := 188) (r := 26) (x := (96, 97, (1, 0, 4))) (by decide) rfl rfl (by decide) (by decide)
  exact ⟨k.1, k.2.1⟩
theorem r_97 (hQ : QK P (r_T 0) (RJ P) h) : 0 ≤ h 188 97 ∧ h 188 97 ≤ 4 := by
  have k : IV P (1, 0, 4) (h 188 97) := q_cell hQ (q := 188) (r := 27) (x := (97, 98, (1, 0, 4))) (by decide) rfl rfl (by decide) (by decide)
  exact ⟨k.1, k.2.1⟩
theorem r_98 (hQ : QK P (r_T 0) (RJ P) h) : 0 ≤ h 188 98 ∧ h 188 98 ≤ 6 := by
  have k : IV P (1, 0, 6) (h 188 98) := q_cell hQ (q := 188) (r := 28) (x := (98, 99, (1, 0, 6))) (by decide) rfl rfl (by decide) (by decide)
  exact ⟨k.1, k.2.1⟩
/-- a cell_w of the draft is_w written_w -/
theorem gw_QK (hp : PK P N h) {i lo_w hi_w : Nat} {u v : Int} (hi0_w : 95 ≤ i) (h99 : i ≠ 99) (hu : u ≤ 9999) (v0_w : 0 ≤ v) (v1_w : v ≤ u) (hf : g_fit lo_w hi_w (1, 0, u) = true) (k1_w : lo_w ≤ i) (k2 : i < hi_w) : QK P (r_T 0) (RJ P) (j_up h 188 i v) ∧ PF N NL h (j_up h 188 i v) := by
  have hin : InI v := ⟨by omega, by omega⟩
  exact ⟨dw_QK hp.1 (ht_up hp.1.1 (by decide) hin) (Or.inl ⟨rfl, hi0_w⟩) (g_fit_ok hf k1_w k2 ⟨v0_w, v1_w, hin⟩), ⟨fun o k e e2_w e3_w => up_ne (fun z => e2_w z.1 (by rw [z.2]; exact h99)), by rw [up_ne (fun z => absurd z.1 (by decide))]; exact hp.2.1.1, by rw [up_ne (fun z => absurd z.1 (by decide))]; exact ht_fld hp.1 rfl, fun _ => up_ne (fun z => absurd z.1 (by decide)), by rw [up_ne (fun z => absurd z.1 (by decide))]; exact Int.le_refl _, by rw [up_ne (fun z => absurd z.1 (by decide))]; exact hp.2.1.2.2.1⟩⟩
theorem gw_PK (hp : PK P N h) {i lo_w hi_w : Nat} {u v : Int} (hi0_w : 95 ≤ i) (h99 : i ≠ 99) (hu : u ≤ 9999) (v0_w : 0 ≤ v) (v1_w : v ≤ u) (hf : g_fit lo_w hi_w (1, 0, u) = true) (k1_w : lo_w ≤ i) (k2 : i < hi_w) (s1_w : i ≠ 96) (s2_w : i ≠ 98) (s3_w : ∀ m : Nat, (m : Int) < h 188 98 → i ≠ 169 + 3 * m) (s4_w : ∀ m : Nat, (m : Int) < h 188 96 → i ≠ 113 + 14 * m) : PK P N (j_up h 188 i v) ∧ PF N NL h (j_up h 188 i v) := by
  obtain ⟨q, e⟩ := gw_QK hp hi0_w h99 hu v0_w v1_w hf k1_w k2
  exact ⟨⟨q, e.pt hp.2.1, DG.up hp.1 hp.2.2 (up_ne (fun z => s1_w z.2.symm)) (up_ne (fun z => s2_w z.2.symm)) (fun k hk => up_ne (fun z => s3_w k hk z.2.symm)) (fun k hk => up_ne (fun z => s4_w k hk z.2.symm))⟩, e⟩
theorem pf_nl {W : Nat → Prop} (e : PF N W h h') (hw : ¬W 99) : PF N NL h h' := e.mono (fun k hk z => hw (z ▸ hk))
theorem g_212 (c197 : G197 P N g (evF xs L ck K cW g_M n)) (c200 : G200 P N g (evF xs L ck K cW g_M n)) (c207 : G207 g (evF xs L ck K cW g_M n)) (c208 : G208 P N g (evF xs L ck K cW g_M n)) (c211 : G211 P N g (evF xs L ck K cW g_M n)) : G212 212 P N g (evF xs L ck K cW g_M (n + 1)) := fun h hp f0_w ht => by
  suffices hs : ∃ r h', evF xs L ck K cW g_M (n + 1) 212 [182] ((a_g3, g), h) = some (1, r, ((a_g3, g), h')) ∧ B212 P N h r h' by
    obtain ⟨r, h', e1_w, rfl, e2_w⟩ := hs
    exact ⟨h', e1_w, e2_w⟩
  refine tr_of gm_212 ?_
  show wS _ _ K bb_212 [182, 0, 0, 0, 0] h _
  generalize evF xs L ck K cW g_M n = F at c197 c200 c207 c208 c211 ⊢
  unfold bb_212
  simp only [wf_4, wf_40, wf_5, wf_50, wf_6, wl_1, wt_1, wu_1, wa_1, wl_4, wt_4, wu_4, wa_4, wl_5, wt_5, wu_5, wa_5, wl_6, wt_6, wu_6, wa_6, wl_9, wt_9, wu_9, wa_9, wl_10, wt_10, wu_10, wa_10, wl_11, wt_11, wu_11, wa_11, wl_13, wt_13, wu_13, wa_13, wl_14, wt_14, wu_14, wa_14, wl_15, wt_15, wu_15, wa_15, wl_16, wt_16, wu_16, wa_16, wl_17, wt_17, wu_17, wa_17, wl_20, wt_20, wu_20, wa_20, wl_21, wt_21, wu_21, wa_21, wl_22, wt_22, wu_22, wa_22, wl_23, wt_23, wu_23, wa_23, wl_24, wt_24, wu_24, wa_24, wl_26, wt_26, wu_26, wa_26, wl_27, wt_27, wu_27, wa_27, wl_28, wt_28, wu_28, wa_28, we_1, we_3, we_10, we_14, we_15, we_16, we_17, we_18, we_20, we_21, we_22, we_24, we_25, we_26, we_27, we_28, we_30, we_31, we_32, wc_20, wc_21, wc_22, wc_24, wc_25, wc_26, wc_27, wc_3, wc_4, wc_7, wc_28, wc_32, ws_1, ws_2, ws_3, ws_4, ws_9, ws_10, ws_11, ws_14, ws_15, ws_16, ws_27, ws_17, ws_20, ws_28, kc_0, kc_1, kn_1, kc_2, kn_2, kc_3, kc_4, kc_5, kc_6, kc_7, kc_8, kc_9, kc_10, kc_12, kc_13, kc_14, kc_16, kc_17, kc_18, kc_19, kc_20, kc_21, kc_22, kc_24, kc_28, kc_30, kc_32, kc_37, kc_40, kc_41, kc_42, kc_43, kc_45, kc_48, kc_56, kc_57, kc_59, kc_60, kc_61, kc_64, kc_73, kc_78, kc_91, kc_95, kc_96, kc_97, kc_98, kc_99, kc_100, kc_112, kc_122, kc_125, kc_126, kc_150, kc_162, kc_163, kc_168, kc_186, kc_190, kc_200, kc_250, kc_255, kc_355, kc_356, kc_404, kc_405, kc_429, kc_573, kc_999, kc_1000, kc_1002, kc_1100, kc_1891, kc_2200, kc_4719, kc_4869, kc_4881, kc_5148, kc_9999, kn_9999, kc_10000, kc_12345, kc_19741, kc_25433, kc_65536, kc_320403, kc_628412, kc_629093, kc_660401, kc_679843, kc_918640, kc_979410, kc_1178088, kc_6232410, kc_24644941, kc_36238189, kc_38270444, kc_392531318, kc_425693491, kc_1103515245, kc_1342154595, kc_2147483648, kc_42328242873, kc_891704255789, kc_1722105685577, kc_1858726030364, ct_0, ct_1, ct_2, ct_3, ct_4, ct_5, cf_0, cf_1, cf_2, cf_3, cf_4, cf_5, w_ty6, w_ty7, m_sv, m_z0, m_hd, m_g0, m_gs, m_s0, m_ss, m_ap, m_an, forall_const, true_and, and_true, ne_eq, not_true_eq_false, not_false_eq_true, false_implies, true_implies, implies_true, eq_self, reduceCtorEq, Nat.reduceDiv, Nat.reduceMod, Int.reduceToNat, or_true, true_or, or_false, false_or, or_self, m_it, m_if, m_c1, m_01, m_02, m_03, m_04, m_10, m_12, m_13, m_14, m_20, m_21, m_23, m_24, m_30, m_31, m_32, m_34, m_40, m_41, m_42, m_43]
  obtain ⟨b0, b4⟩ := r_96 hp.1
  obtain ⟨h1, x1_w, p1_w, e1_w, l1⟩ := c208 h 0 (h 188 96) 4 hp f0_w ht (by decide) b0 b4 (by decide)
  obtain ⟨h2, x2_w, a2, -⟩ := c197 h1 3 p1_w (by decide) (by decide)
  have p2_w := p1_w.pa a2
  obtain ⟨v, h3, x3, a3, iv_w, ok, -⟩ := c200 h2 0 999 p2_w ⟨by decide, by decide⟩ ⟨by decide, by decide⟩
  have p3_w := p2_w.pa a3
  obtain ⟨h4, x4_w, a4, -⟩ := c197 h3 4 p3_w (by decide) (by decide)
  have p4_w := p3_w.pa a4
  have e4_w : PF N NL h h4 := pf_nl (W := fun _ => False) (e1_w.tr (a2.pf.tr (a3.pf.tr a4.pf))) (fun z => z)
  have x0_w : F 207 [182, 1] ((a_g3, g), h) = some (1, [h 188 96], ((a_g3, g), h)) := c207 h 1 (by decide) (by decide)
  refine ⟨_, h, x0_w, [], h1, x1_w, [], h2, x2_w, [v], h3, x3, [], h4, x4_w, fun k => ⟨fun z => by omega, fun _ => ⟨rfl, p4_w, e4_w⟩⟩, fun k => ?_⟩
  have z4 : h4 182 8 = 0 := by
    have := p4_w.2.1.1
    omega
  have z3 : h3 182 8 = 0 := Decidable.byContradiction fun z => absurd z4 (by rw [a4.2.2.2.1 z]; exact z)
  have z2 : h2 182 8 = 0 := Decidable.byContradiction fun z => absurd z3 (by rw [a3.2.2.2.1 z]; exact z)
  have z1 : h1 182 8 = 0 := Decidable.byContradiction fun z => absurd z2 (by rw [a2.2.2.2.1 z]; exact z)
  obtain ⟨v0_w, v1_w, -⟩ := ok z3
  have m4_w := l1 z1
  have g4 : ∀ i, h4 188 i = h 188 i := fun i => (pf_g (W := fun _ => False) (e1_w.tr (a2.pf.tr (a3.pf.tr a4.pf))) (fun z => z))
  obtain ⟨m, hm_w⟩ : ∃ m : Nat, h 188 96 = (m : Int) := ⟨(h 188 96).toNat, by omega⟩
  have hm4 : m < 4 := by omega
  obtain ⟨t1_w, t2_w, t3_w⟩ := fit_c m hm4
  have j1 : j_iop 0 112 (j_iop 2 14 (h 188 96)) = 112 + 14 * (m : Int) := by
    rw [hm_w, jmul (x := 14) (y := (m : Int)) (by omega) (by omega), jadd (by omega) (by omega)]
  have j2_w : j_iop 0 (112 + 14 * (m : Int)) 2 = 114 + 14 * (m : Int) := by
    rw [jadd (by omega) (by omega)]
    omega
  have j3_w : j_iop 0 (112 + 14 * (m : Int)) 1 = 113 + 14 * (m : Int) := by
    rw [jadd (by omega) (by omega)]
    omega
  have ro : RowOK P h4 (114 + 14 * (m : Int)) 99 := by
    refine ⟨by omega, by omega, by decide, by decide, fun i w i0 i1_w w0_w w1_w => g_fit_ok t3_w (by omega) (by omega) ⟨w0_w, w1_w, by omega, by omega⟩, fun i i0 i1_w => ⟨by omega, by omega, fun k => by omega, fun k => ?_⟩⟩
    rw [g4, hm_w]
    omega
  obtain ⟨w, h5, x5_w, p5_w, e5_w, iw, w5⟩ := c211 h4 _ 99 p4_w z4 ro
  have n5_w : PF N NL h h5 := e4_w.tr (pf_nl e5_w (fun z => by have := z.1; omega))
  have g96 : h5 188 96 = (m : Int) := by
    rw [pf_g e5_w (fun z => by have := z.1; omega), g4, hm_w]
  have jh : j_hd [h 188 96] = h 188 96 := rfl
  simp only [jh, j1, j2_w, j3_w]
  refine ⟨[w], h5, x5_w, fun z5 => ?_, fun z5 => ⟨rfl, p5_w, n5_w⟩⟩
  obtain ⟨w0_w, w1_w⟩ := w5 z5
  have k1_w : (112 + 14 * (m : Int)).toNat = 112 + 14 * m := by omega
  have k2 : (113 + 14 * (m : Int)).toNat = 113 + 14 * m := by omega
  refine ⟨⟨by omega, by omega⟩, ⟨by omega, by omega⟩, ⟨by decide, by decide⟩, ?_⟩
  rw [k1_w, k2]
  obtain ⟨p6_w, n6_w⟩ := gw_PK p5_w (i := 112 + 14 * m) (by omega) (by omega) (by decide) v0_w v1_w t1_w (by omega) (by omega) (by omega) (by omega) (fun k _ => by omega) (fun k _ => by omega)
  have g96' : j_up h5 188 (112 + 14 * m) v 188 96 = (m : Int) := by
    rw [up_ne (fun z => by have := z.2; omega), g96]
  obtain ⟨p7_w, n7⟩ := gw_PK p6_w (i := 113 + 14 * m) (by omega) (by omega) (by decide) (v := w) (by omega) w1_w t2_w (by omega) (by omega) (by omega) (by omega) (fun k _ => by omega) (fun k hk => by rw [g96'] at hk; omega)
  have g96'' : j_up (j_up h5 188 (112 + 14 * m) v) 188 (113 + 14 * m) w 188 96 = (m : Int) := by
    rw [up_ne (fun z => by have := z.2; omega), g96']
  rw [show j_hd [w] = w from rfl, show j_hd [v] = v from rfl, g96'', jadd (x := (m : Int)) (y := 1) (by omega) (by omega)]
  have cw : j_up (j_up h5 188 (112 + 14 * m) v) 188 (113 + 14 * m) w 188 (113 + 14 * m) = w := up_eq
  generalize j_up (j_up h5 188 (112 + 14 * m) v) 188 (113 + 14 * m) w = h7 at p7_w n7 g96'' cw ⊢
  obtain ⟨q8_w, n8⟩ := gw_QK p7_w (i := 96) (lo_w := 96) (hi_w := 97) (u := 4) (v := (m : Int) + 1) (by decide) (by decide) (by decide) (by omega) (by omega) (by decide +kernel) (by decide) (by decide)
  refine ⟨rfl, ⟨q8_w, n8.pt p7_w.2.1, ?_⟩, n5_w.tr (n6_w.tr (n7.tr n8))⟩
  have d := p7_w.2.2
  have e98_w : j_up h7 188 96 ((m : Int) + 1) 188 98 = h7 188 98 := up_ne (fun z => absurd z.2 (by decide))
  have e96 : j_up h7 188 96 ((m : Int) + 1) 188 96 = (m : Int) + 1 := up_eq
  unfold DG
  rw [e98_w, e96]
  refine ⟨fun i hi_w => ?_, fun c hc_w => ?_⟩
  · rw [up_ne (fun z => by have := z.2; omega)]
    have k := d.1 i hi_w
    rw [g96''] at k
    omega
  · rw [up_ne (fun z => by have := z.2; omega)]
    by_cases e : c = m
    · subst e
      rw [show 95 + (18 + 14 * c) = 113 + 14 * c by omega, cw]
      omega
    · exact d.2 c (by rw [g96'']; omega)
end PARC
end
section
/-! ===== the reference's parser: a meter ===== -/
section PARD
variable {P : Int × Int} {N : Nat} {g : Nat × Nat} {xs : Nat → Int} {L K n : Nat} {ck : Nat → List Nat} {cW : Nat → Nat → Int} {h h' h1 h2 : XH} {F : XP}
theorem pa_0 (a : PA N h h1) (z : h1 182 8 = 0) : h 182 8 = 0 := Decidable.byContradiction fun y => absurd z (by rw [a.2.2.2.1 y]; exact y)
theorem g_213 (c197 : G197 P N g (evF xs L ck K cW g_M n)) (c202 : G202 P N g (evF xs L ck K cW g_M n)) (c205 : G205 P N g (evF xs L ck K cW g_M n)) (c207 : G207 g (evF xs L ck K cW g_M n)) (c208 : G208 P N g (evF xs L ck K cW g_M n)) : G212 213 P N g (evF xs L ck K cW g_M (n + 1)) := fun h hp f0_w ht => by
  suffices hs : ∃ r h', evF xs L ck K cW g_M (n + 1) 213 [182] ((a_g3, g), h) = some (1, r, ((a_g3, g), h')) ∧ B212 P N h r h' by
    obtain ⟨r, h', e1_w, rfl, e2_w⟩ := hs
    exact ⟨h', e1_w, e2_w⟩
  refine tr_of gm_213 ?_
  show wS _ _ K bb_213 [182, 0, 0, 0, 0, 0] h _
  generalize evF xs L ck K cW g_M n = F at c197 c202 c205 c207 c208 ⊢
  unfold bb_213
  simp only [wf_4, wf_40, wf_5, wf_50, wf_6, wl_1, wt_1, wu_1, wa_1, wl_4, wt_4, wu_4, wa_4, wl_5, wt_5, wu_5, wa_5, wl_6, wt_6, wu_6, wa_6, wl_9, wt_9, wu_9, wa_9, wl_10, wt_10, wu_10, wa_10, wl_11, wt_11, wu_11, wa_11, wl_13, wt_13, wu_13, wa_13, wl_14, wt_14, wu_14, wa_14, wl_15, wt_15, wu_15, wa_15, wl_16, wt_16, wu_16, wa_16, wl_17, wt_17, wu_17, wa_17, wl_20, wt_20, wu_20, wa_20, wl_21, wt_21, wu_21, wa_21, wl_22, wt_22, wu_22, wa_22, wl_23, wt_23, wu_23, wa_23, wl_24, wt_24, wu_24, wa_24, wl_26, wt_26, wu_26, wa_26, wl_27, wt_27, wu_27, wa_27, wl_28, wt_28, wu_28, wa_28, we_1, we_3, we_10, we_14, we_15, we_16, we_17, we_18, we_20, we_21, we_22, we_24, we_25, we_26, we_27, we_28, we_30, we_31, we_32, wc_20, wc_21, wc_22, wc_24, wc_25, wc_26, wc_27, wc_3, wc_4, wc_7, wc_28, wc_32, ws_1, ws_2, ws_3, ws_4, ws_9, ws_10, ws_11, ws_14, ws_15, ws_16, ws_27, ws_17, ws_20, ws_28, kc_0, kc_1, kn_1, kc_2, kn_2, kc_3, kc_4, kc_5, kc_6, kc_7, kc_8, kc_9, kc_10, kc_12, kc_13, kc_14, kc_16, kc_17, kc_18, kc_19, kc_20, kc_21, kc_22, kc_24, kc_28, kc_30, kc_32, kc_37, kc_40, kc_41, kc_42, kc_43, kc_45, kc_48, kc_56, kc_57, kc_59, kc_60, kc_61, kc_64, kc_73, kc_78, kc_91, kc_95, kc_96, kc_97, kc_98, kc_99, kc_100, kc_112, kc_122, kc_125, kc_126, kc_150, kc_162, kc_163, kc_168, kc_186, kc_190, kc_200, kc_250, kc_255, kc_355, kc_356, kc_404, kc_405, kc_429, kc_573, kc_999, kc_1000, kc_1002, kc_1100, kc_1891, kc_2200, kc_4719, kc_4869, kc_4881, kc_5148, kc_9999, kn_9999, kc_10000, kc_12345, kc_19741, kc_25433, kc_65536, kc_320403, kc_628412, kc_629093, kc_660401, kc_679843, kc_918640, kc_979410, kc_1178088, kc_6232410, kc_24644941, kc_36238189, kc_38270444, kc_392531318, kc_425693491, kc_1103515245, kc_1342154595, kc_2147483648, kc_42328242873, kc_891704255789, kc_1722105685577, kc_1858726030364, ct_0, ct_1, ct_2, ct_3, ct_4, ct_5, cf_0, cf_1, cf_2, cf_3, cf_4, cf_5, w_ty6, w_ty7, m_sv, m_z0, m_hd, m_g0, m_gs, m_s0, m_ss, m_ap, m_an, forall_const, true_and, and_true, ne_eq, not_true_eq_false, not_false_eq_true, false_implies, true_implies, implies_true, eq_self, reduceCtorEq, Nat.reduceDiv, Nat.reduceMod, Int.reduceToNat, or_true, true_or, or_false, false_or, or_self, m_it, m_if, m_c1, m_01, m_02, m_03, m_04, m_10, m_12, m_13, m_14, m_20, m_21, m_23, m_24, m_30, m_31, m_32, m_34, m_40, m_41, m_42, m_43]
  obtain ⟨b0, b6⟩ := r_98 hp.1
  obtain ⟨cc0, cc4⟩ := r_96 hp.1
  obtain ⟨ss0, ss4⟩ := r_97 hp.1
  obtain ⟨h1, x1_w, p1_w, e1_w, l1⟩ := c208 h 8 (h 188 98) 6 hp f0_w ht (by decide) b0 b6 (by decide)
  obtain ⟨v, h2, x2_w, a2, iv_w, ok2, -⟩ := c202 h1 13 4 p1_w (by decide) (by decide) (by decide)
  have p2_w := p1_w.pa a2
  obtain ⟨h3, x3, a3, -⟩ := c197 h2 2 p2_w (by decide) (by decide)
  have p3_w := p2_w.pa a3
  have n3_w : PF N (fun _ => False) h h3 := e1_w.tr (a2.pf.tr a3.pf)
  have g3_w : ∀ i, h3 188 i = h 188 i := fun i => pf_g n3_w (fun z => z)
  obtain ⟨w, h4, x4_w, a4, iw, ok4, -⟩ := c205 h3 14 (h 188 96) p3_w (by decide) cc0 (by omega)
  have p4_w := p3_w.pa a4
  obtain ⟨h5, x5_w, a5, -⟩ := c197 h4 7 p4_w (by decide) (by decide)
  have p5_w := p4_w.pa a5
  have n5_w : PF N (fun _ => False) h h5 := n3_w.tr (a4.pf.tr a5.pf)
  have g5_w : ∀ i, h5 188 i = h 188 i := fun i => pf_g n5_w (fun z => z)
  obtain ⟨u, h6, x6, a6, iu, ok6, -⟩ := c205 h5 18 (h 188 97) p5_w (by decide) ss0 (by omega)
  have p6_w := p5_w.pa a6
  have n6_w : PF N (fun _ => False) h h6 := n5_w.tr a6.pf
  have g6 : ∀ i, h6 188 i = h 188 i := fun i => pf_g n6_w (fun z => z)
  have m6_w : PF N NL h h6 := pf_nl n6_w (fun z => z)
  have y0 : F 207 [182, 3] ((a_g3, g), h) = some (1, [h 188 98], ((a_g3, g), h)) := c207 h 3 (by decide) (by decide)
  have y3 : F 207 [182, 1] ((a_g3, g), h3) = some (1, [h 188 96], ((a_g3, g), h3)) := by
    rw [← g3_w]
    exact c207 h3 1 (by decide) (by decide)
  have y5 : F 207 [182, 2] ((a_g3, g), h5) = some (1, [h 188 97], ((a_g3, g), h5)) := by
    rw [← g5_w]
    exact c207 h5 2 (by decide) (by decide)
  refine ⟨_, h, y0, [], h1, x1_w, [v], h2, x2_w, [], h3, x3, _, h3, y3, [w], h4, x4_w, [], h5, x5_w, _, h5, y5, [u], h6, x6, fun z6 => ?_, fun z6 => ⟨rfl, p6_w, m6_w⟩⟩
  have z5 := pa_0 a6 z6
  have z4 := pa_0 a5 z5
  have z3 := pa_0 a4 z4
  have z2 := pa_0 a3 z3
  have z1 := pa_0 a2 z2
  have l6 := l1 z1
  obtain ⟨v0_w, v1_w, -⟩ := ok2 z2
  obtain ⟨w0_w, w1_w, -⟩ := ok4 z4
  obtain ⟨u0, u1, -⟩ := ok6 z6
  obtain ⟨m, hm_w⟩ : ∃ m : Nat, h 188 98 = (m : Int) := ⟨(h 188 98).toNat, by omega⟩
  have hm6 : m < 6 := by omega
  have ft := fit_m m hm6
  have j1 : j_iop 0 168 (j_iop 2 3 (h 188 98)) = 168 + 3 * (m : Int) := by
    rw [hm_w, jmul (x := 3) (y := (m : Int)) (by omega) (by omega), jadd (by omega) (by omega)]
  have j2_w : j_iop 0 (168 + 3 * (m : Int)) 1 = 169 + 3 * (m : Int) := by
    rw [jadd (by omega) (by omega)]
    omega
  have j3_w : j_iop 0 (168 + 3 * (m : Int)) 2 = 170 + 3 * (m : Int) := by
    rw [jadd (by omega) (by omega)]
    omega
  have jh : j_hd [h 188 98] = h 188 98 := rfl
  simp only [jh, j1, j2_w, j3_w]
  have k1_w : (168 + 3 * (m : Int)).toNat = 168 + 3 * m := by omega
  have k2 : (169 + 3 * (m : Int)).toNat = 169 + 3 * m := by omega
  have k3 : (170 + 3 * (m : Int)).toNat = 170 + 3 * m := by omega
  refine ⟨⟨by omega, by omega⟩, ⟨by omega, by omega⟩, ⟨by omega, by omega⟩, ⟨by decide, by decide⟩, ?_⟩
  rw [k1_w, k2, k3]
  have e98_w : h6 188 98 = (m : Int) := by rw [g6, hm_w]
  obtain ⟨q1_w, s1_w⟩ := gw_PK p6_w (i := 168 + 3 * m) (u := 3) (v := v) (by omega) (by omega) (by decide) v0_w (by omega) ft (by omega) (by omega) (by omega) (by omega) (fun k _ => by omega) (fun k hk => by rw [g6] at hk; omega)
  have e98' : j_up h6 188 (168 + 3 * m) v 188 98 = (m : Int) := by
    rw [up_ne (fun z => by have := z.2; omega), e98_w]
  have e96' : j_up h6 188 (168 + 3 * m) v 188 96 = h 188 96 := by
    rw [up_ne (fun z => by have := z.2; omega), g6]
  obtain ⟨q2_w, s2_w⟩ := gw_PK q1_w (i := 169 + 3 * m) (u := 3) (v := w) (by omega) (by omega) (by decide) w0_w (by omega) ft (by omega) (by omega) (by omega) (by omega) (fun k hk => by rw [e98'] at hk; omega) (fun k hk => by rw [e96'] at hk; omega)
  have e98'' : j_up (j_up h6 188 (168 + 3 * m) v) 188 (169 + 3 * m) w 188 98 = (m : Int) := by
    rw [up_ne (fun z => by have := z.2; omega), e98']
  have e96'' : j_up (j_up h6 188 (168 + 3 * m) v) 188 (169 + 3 * m) w 188 96 = h 188 96 := by
    rw [up_ne (fun z => by have := z.2; omega), e96']
  have cw : j_up (j_up h6 188 (168 + 3 * m) v) 188 (169 + 3 * m) w 188 (169 + 3 * m) = w := up_eq
  rw [show j_hd [u] = u from rfl, show j_hd [w] = w from rfl, show j_hd [v] = v from rfl]
  generalize j_up (j_up h6 188 (168 + 3 * m) v) 188 (169 + 3 * m) w = h7 at q2_w s2_w e98'' e96'' cw ⊢
  obtain ⟨q3_w, s3_w⟩ := gw_PK q2_w (i := 170 + 3 * m) (u := 3) (v := u) (by omega) (by omega) (by decide) u0 (by omega) ft (by omega) (by omega) (by omega) (by omega) (fun k hk => by omega) (fun k hk => by rw [e96''] at hk; omega)
  have f98 : j_up h7 188 (170 + 3 * m) u 188 98 = (m : Int) := by
    rw [up_ne (fun z => by have := z.2; omega), e98'']
  have f96 : j_up h7 188 (170 + 3 * m) u 188 96 = h 188 96 := by
    rw [up_ne (fun z => by have := z.2; omega), e96'']
  have fw : j_up h7 188 (170 + 3 * m) u 188 (169 + 3 * m) = w := by
    rw [up_ne (fun z => by have := z.2; omega), cw]
  rw [f98, jadd (x := (m : Int)) (y := 1) (by omega) (by omega)]
  generalize j_up h7 188 (170 + 3 * m) u = h8 at q3_w s3_w f98 f96 fw ⊢
  obtain ⟨q4_w, s4_w⟩ := gw_QK q3_w (i := 98) (lo_w := 98) (hi_w := 99) (u := 6) (v := (m : Int) + 1) (by decide) (by decide) (by decide) (by omega) (by omega) (by decide +kernel) (by decide) (by decide)
  refine ⟨rfl, ⟨q4_w, s4_w.pt q3_w.2.1, ?_⟩, m6_w.tr (s1_w.tr (s2_w.tr (s3_w.tr s4_w)))⟩
  have d := q3_w.2.2
  have d98_w : j_up h8 188 98 ((m : Int) + 1) 188 98 = (m : Int) + 1 := up_eq
  have d96_w : j_up h8 188 98 ((m : Int) + 1) 188 96 = h8 188 96 := up_ne (fun z => absurd z.2 (by decide))
  unfold DG
  rw [d98_w, d96_w]
  refine ⟨fun i hi_w => ?_, fun c hc_w => ?_⟩
  · rw [up_ne (fun z => by have := z.2; omega)]
    by_cases e : i = m
    · subst e
      rw [show 95 + (74 + 3 * i) = 169 + 3 * i by omega, fw, f96]
      omega
    · exact d.1 i (by rw [f98]; omega)
  · rw [up_ne (fun z => by have := z.2; omega)]
    exact d.2 c hc_w
end PARD
end
section
/-! ===== the reference's parser: a line of a grid ===== -/
/-- the law_w that is_w drafted -/
def DL (h : XH) : Prop := h 188 99 = -1 ∨ h 182 8 ≠ 0 ∨ (0 ≤ h 188 99 ∧ ∃ l : List Int, Seg (h 189) (1100 + (h 188 99).toNat) l ∧ h 189 (1100 + (h 188 99).toNat + l.length) = 0 ∧ h 188 99 + l.length + 1 ≤ h 182 12 ∧ htO 0 l = some 1)
def DR (P : Int × Int) (N : Nat) (h : XH) : Prop := PK P N h ∧ h 182 12 ≤ h 182 7 ∧ DL h
def G210 (P : Int × Int) (N : Nat) (g : Nat × Nat) (F : XP) : Prop := ∀ (h : XH), DR P N h → h 182 8 = 0 → ∃ h', F 210 [182] ((a_g3, g), h) = some (1, [], ((a_g3, g), h')) ∧ DR P N h' ∧ h 182 7 ≤ h' 182 7
def B210 (P : Int × Int) (N : Nat) (h : XH) (r : List Int) (h' : XH) : Prop := r = [] ∧ DR P N h' ∧ h 182 7 ≤ h' 182 7
section PARE
variable {P : Int × Int} {N : Nat} {g : Nat × Nat} {xs : Nat → Int} {L K n : Nat} {ck : Nat → List Nat} {cW : Nat → Nat → Int} {h h' h1 h2 : XH} {F : XP}
theorem DL.pf (d : DL h) (e : PF N NL h h') : DL h' := by
  have e99_w : h' 188 99 = h 188 99 := pf_g e (fun z => z rfl)
  have e12_w : h' 182 12 = h 182 12 := e.1 182 12 (fun _ => by decide) (fun z => absurd z (by decide)) (fun z => absurd z (by decide))
  rcases d with d | d | ⟨d0_w, l, d1_w, d2_w, d3_w, d4_w⟩
  · exact Or.inl (e99_w.trans d)
  · exact Or.inr (Or.inl (by rw [e.2.2.2.1 d]; exact d))
  · refine Or.inr (Or.inr ?_)
    rw [e99_w, e12_w]
    exact ⟨d0_w, l, fun k hk => (pf_same e (by decide) (by decide) (by decide)).trans (d1_w k hk), (pf_same e (by decide) (by decide) (by decide)).trans d2_w, d3_w, d4_w⟩
theorem DR.pf (d : DR P N h) (p : PK P N h') (e : PF N NL h h') : B210 P N h [] h' := by
  have e12_w : h' 182 12 = h 182 12 := e.1 182 12 (fun _ => by decide) (fun z => absurd z (by decide)) (fun z => absurd z (by decide))
  have e7_w := e.2.2.2.2.1
  have d2_w := d.2.1
  exact ⟨rfl, ⟨p, by omega, d.2.2.pf e⟩, e7_w⟩
/-- the law's line -/
theorem law_E (hp : PK P N h) (hc_w : h 182 12 ≤ h 182 7) (h1p : PK P N h1) (e1_w : PF N (fun i => i = 186) h h1) (at1_w : h1 182 7 = h 182 7 + 1) (px : PX N (j_up h1 188 99 (h1 182 12)) h2) (q : QK P (r_T 0) (RJ P) h2) (ex_w : EX 25 (j_up h1 188 99 (h1 182 12)) h2) : B210 P N h [] (emt h2 0) := by
  have e12_w : h1 182 12 = h 182 12 := e1_w.1 182 12 (fun _ => by decide) (fun z => absurd z (by decide)) (fun z => absurd z (by decide))
  have u12 : j_up h1 188 99 (h1 182 12) 182 12 = h 182 12 := (up_ne (fun z => absurd z.1 (by decide))).trans e12_w
  have u7 : j_up h1 188 99 (h1 182 12) 182 7 = h 182 7 + 1 := (up_ne (fun z => absurd z.1 (by decide))).trans at1_w
  obtain ⟨a1_w, a2, a3, a4, a5, a6, a7, a8⟩ := px
  obtain ⟨_, ⟨t1_w, t2_w, t3_w, t4_w, t5_w, t6, t7, t8⟩, _⟩ := hp
  obtain ⟨_, ⟨s1_w, s2_w, s3_w, s4_w, s5, s6_w, s7, s8⟩, sd_w⟩ := h1p
  rw [u7] at a5 a8
  rw [u12] at a7 a8
  have o : ∀ q : Nat, q ≠ 182 → q ≠ 189 → q ≠ 188 → ∀ k, emt h2 0 q k = h1 q k := fun q z1 z2 z3 k => by
    rw [emt_ob (fun z => absurd z z1) (fun z => absurd z z2), a1_w q k (fun z => absurd z z1) (fun z => absurd z z2)]
    exact up_ne (fun z => z3 z.1)
  have o8_w : ∀ k, k ≠ 99 → emt h2 0 188 k = h1 188 k := fun k hk => by
    rw [emt_ob (fun z => absurd z (by decide)) (fun z => absurd z (by decide)), a1_w 188 k (fun z => absurd z (by decide)) (fun z => absurd z (by decide))]
    exact up_ne (fun z => hk z.2)
  have o99 : emt h2 0 188 99 = h 182 12 := by
    rw [emt_ob (fun z => absurd z (by decide)) (fun z => absurd z (by decide)), a1_w 188 99 (fun z => absurd z (by decide)) (fun z => absurd z (by decide)), up_eq, e12_w]
  refine ⟨rfl, ⟨⟨emt_QK q in_0 ⟨by omega, by omega⟩, ⟨?_, ?_, ?_, s4_w, ?_, ?_, ?_, ?_⟩, ?_⟩, ?_, ?_⟩, ?_⟩
  · rw [emt_8]
    exact a2
  · rw [emt_7]
    omega
  · rw [emt_7]
    exact a6
  · rw [o 184 (by decide) (by decide) (by decide)]
    exact s5
  · rw [emt_12]
    omega
  · rw [emt_12, emt_7]
    omega
  · intro i hi_w hs
    rw [o 184 (by decide) (by decide) (by decide)] at hs
    rw [o 186 (by decide) (by decide) (by decide)]
    exact s8 i hi_w hs
  · unfold DG
    rw [o8_w 98 (by decide), o8_w 96 (by decide)]
    refine ⟨fun m hm_w => ?_, fun c hc_w => ?_⟩
    · rw [o8_w _ (by omega)]
      exact sd_w.1 m hm_w
    · rw [o8_w _ (by omega)]
      exact sd_w.2 c hc_w
  · rw [emt_12, emt_7]
    omega
  · by_cases z : emt h2 0 182 8 = 0
    · obtain ⟨l, l1, l2, l3⟩ := ex_w (emt_8.symm.trans z)
      rw [u12] at l1 l2
      refine Or.inr (Or.inr ?_)
      rw [o99, emt_12, l2]
      refine ⟨t6, l, fun k hk => ?_, ?_, by omega, l3 0 (by decide)⟩
      · rw [emt_ob (fun z => absurd z (by decide)) (fun _ => by omega)]
        exact l1 k hk
      · unfold emt
        rw [up_ne (fun z => absurd z.1 (by decide)), show 1100 + (h 182 12).toNat + l.length = 1100 + (h2 182 12).toNat by omega, up_eq]
    · exact Or.inr (Or.inl z)
  · rw [emt_7]
    omega
theorem g_210 (c191 : G191 P N g (evF xs L ck K cW g_M n)) (c193 : G193 P N g (evF xs L ck K cW g_M n)) (c200 : G200 P N g (evF xs L ck K cW g_M n)) (c207 : G207 g (evF xs L ck K cW g_M n)) (c208 : G208 P N g (evF xs L ck K cW g_M n)) (c209 : G209 P N g (evF xs L ck K cW g_M n)) (c211 : G211 P N g (evF xs L ck K cW g_M n)) (c212 : G212 212 P N g (evF xs L ck K cW g_M n)) (c213 : G212 213 P N g (evF xs L ck K cW g_M n)) (c216 : G216 P N g (evF xs L ck K cW g_M n)) (c217 : GE 217 25 0 P N g (evF xs L ck K cW g_M n)) : G210 P N g (evF xs L ck K cW g_M (n + 1)) := fun h hd_w f0_w => by
  suffices hs : ∃ r h', evF xs L ck K cW g_M (n + 1) 210 [182] ((a_g3, g), h) = some (1, r, ((a_g3, g), h')) ∧ B210 P N h r h' by
    obtain ⟨r, h', e1_w, rfl, e2_w⟩ := hs
    exact ⟨h', e1_w, e2_w⟩
  refine tr_of gm_210 ?_
  show wS _ _ K bb_210 [182] h _
  generalize evF xs L ck K cW g_M n = F at c191 c193 c200 c207 c208 c209 c211 c212 c213 c216 c217 ⊢
  unfold bb_210
  simp only [wf_4, wf_40, wf_5, wf_50, wf_6, wl_1, wt_1, wu_1, wa_1, wl_4, wt_4, wu_4, wa_4, wl_5, wt_5, wu_5, wa_5, wl_6, wt_6, wu_6, wa_6, wl_9, wt_9, wu_9, wa_9, wl_10, wt_10, wu_10, wa_10, wl_11, wt_11, wu_11, wa_11, wl_13, wt_13, wu_13, wa_13, wl_14, wt_14, wu_14, wa_14, wl_15, wt_15, wu_15, wa_15, wl_16, wt_16, wu_16, wa_16, wl_17, wt_17, wu_17, wa_17, wl_20, wt_20, wu_20, wa_20, wl_21, wt_21, wu_21, wa_21, wl_22, wt_22, wu_22, wa_22, wl_23, wt_23, wu_23, wa_23, wl_24, wt_24, wu_24, wa_24, wl_26, wt_26, wu_26, wa_26, wl_27, wt_27, wu_27, wa_27, wl_28, wt_28, wu_28, wa_28, we_1, we_3, we_10, we_14, we_15, we_16, we_17, we_18, we_20, we_21, we_22, we_24, we_25, we_26, we_27, we_28, we_30, we_31, we_32, wc_20, wc_21, wc_22, wc_24, wc_25, wc_26, wc_27, wc_3, wc_4, wc_7, wc_28, wc_32, ws_1, ws_2, ws_3, ws_4, ws_9, ws_10, ws_11, ws_14, ws_15, ws_16, ws_27, ws_17, ws_20, ws_28, kc_0, kc_1, kn_1, kc_2, kn_2, kc_3, kc_4, kc_5, kc_6, kc_7, kc_8, kc_9, kc_10, kc_12, kc_13, kc_14, kc_16, kc_17, kc_18, kc_19, kc_20, kc_21, kc_22, kc_24, kc_28, kc_30, kc_32, kc_37, kc_40, kc_41, kc_42, kc_43, kc_45, kc_48, kc_56, kc_57, kc_59, kc_60, kc_61, kc_64, kc_73, kc_78, kc_91, kc_95, kc_96, kc_97, kc_98, kc_99, kc_100, kc_112, kc_122, kc_125, kc_126, kc_150, kc_162, kc_163, kc_168, kc_186, kc_190, kc_200, kc_250, kc_255, kc_355, kc_356, kc_404, kc_405, kc_429, kc_573, kc_999, kc_1000, kc_1002, kc_1100, kc_1891, kc_2200, kc_4719, kc_4869, kc_4881, kc_5148, kc_9999, kn_9999, kc_10000, kc_12345, kc_19741, kc_25433, kc_65536, kc_320403, kc_628412, kc_629093, kc_660401, kc_679843, kc_918640, kc_979410, kc_1178088, kc_6232410, kc_24644941, kc_36238189, kc_38270444, kc_392531318, kc_425693491, kc_1103515245, kc_1342154595, kc_2147483648, kc_42328242873, kc_891704255789, kc_1722105685577, kc_1858726030364, ct_0, ct_1, ct_2, ct_3, ct_4, ct_5, cf_0, cf_1, cf_2, cf_3, cf_4, cf_5, w_ty6, w_ty7, m_sv, m_z0, m_hd, m_g0, m_gs, m_s0, m_ss, m_ap, m_an, forall_const, true_and, and_true, ne_eq, not_true_eq_false, not_false_eq_true, false_implies, true_implies, implies_true, eq_self, reduceCtorEq, Nat.reduceDiv, Nat.reduceMod, Int.reduceToNat, or_true, true_or, or_false, false_or, or_self, m_it, m_if, m_c1, m_01, m_02, m_03, m_04, m_10, m_12, m_13, m_14, m_20, m_21, m_23, m_24, m_30, m_31, m_32, m_34, m_40, m_41, m_42, m_43]
  have hp := hd_w.1
  obtain ⟨v2, w2_w, -, i2_w⟩ := c193 h 2 hp (by decide) (by decide)
  obtain ⟨v5, w5, -, i5_w⟩ := c193 h 5 hp (by decide) (by decide)
  obtain ⟨v6, w6_w, -, i6_w⟩ := c193 h 6 hp (by decide) (by decide)
  obtain ⟨v0_w, w0_w, -, i0⟩ := c193 h 0 hp (by decide) (by decide)
  obtain ⟨v1_w, w1_w, -, i1_w⟩ := c193 h 1 hp (by decide) (by decide)
  obtain ⟨v8, w8, -, i8_w⟩ := c193 h 8 hp (by decide) (by decide)
  have wd : ∀ {w}, tkW h w → h 184 (h 182 7).toNat ≠ 0 := fun t => by rw [t.2.1]; decide
  refine ⟨[v2], h, w2_w, fun k => ?_, fun _ => ⟨[v5], h, w5, fun k => ?_, fun _ => ⟨[v6], h, w6_w, fun k => ?_, fun _ => ⟨[v0_w], h, w0_w, fun k => ?_, fun _ => ⟨[v1_w], h, w1_w, fun k => ?_, fun _ => ⟨[v8], h, w8, fun k => ?_, fun _ => ?_⟩⟩⟩⟩⟩⟩
  · obtain ⟨h1, x1_w, p1_w, e1_w⟩ := c212 h hp f0_w (wd (i2_w.mp k))
    exact ⟨[], h1, x1_w, hd_w.pf p1_w e1_w⟩
  · obtain ⟨b0, b4⟩ := r_97 hp.1
    obtain ⟨h1, x1_w, p1_w, e1_w, l1⟩ := c208 h 4 (h 188 97) 4 hp f0_w (wd (i5_w.mp k)) (by decide) b0 b4 (by decide)
    have g1 : h1 188 97 = h 188 97 := pf_g e1_w (fun z => z)
    have m1_w : PF N NL h h1 := pf_nl e1_w (fun z => z)
    have y0 : F 207 [182, 2] ((a_g3, g), h) = some (1, [h 188 97], ((a_g3, g), h)) := c207 h 2 (by decide) (by decide)
    refine ⟨_, h, y0, [], h1, x1_w, ⟨by decide, by decide⟩, fun z => ?_, fun z => ?_⟩
    · rw [jadd (by omega) (by omega), Int.add_zero, up_self]
      exact hd_w.pf p1_w m1_w
    · have z1 : h1 182 8 = 0 := by
        have := p1_w.2.1.1
        omega
      have := l1 z1
      rw [jadd (by omega) (by omega)]
      obtain ⟨q1_w, s1_w⟩ := gw_PK p1_w (i := 97) (lo_w := 97) (hi_w := 98) (u := 4) (v := h1 188 97 + 1) (by decide) (by decide) (by decide) (by omega) (by omega) (by decide +kernel) (by decide) (by decide) (by decide) (by decide) (fun k _ => by omega) (fun k _ => by omega)
      exact hd_w.pf q1_w (m1_w.tr s1_w)
  · obtain ⟨h1, x1_w, p1_w, e1_w⟩ := c213 h hp f0_w (wd (i6_w.mp k))
    exact ⟨[], h1, x1_w, hd_w.pf p1_w e1_w⟩
  · obtain ⟨v, h1, x1_w, p1_w, e1_w, ok, -⟩ := c209 h 0 hp f0_w (wd (i0.mp k)) (by decide) (by decide)
    have m1_w : PF N NL h h1 := pf_nl e1_w (fun z => absurd z (by decide))
    obtain ⟨u, h2, x2_w, a2, iu, ok2, ko2⟩ := c200 h1 1 12 p1_w ⟨by decide, by decide⟩ ⟨by decide, by decide⟩
    have u12 : 0 ≤ u ∧ u ≤ 12 := by
      by_cases z : h2 182 8 = 0
      · have := ok2 z
        omega
      · have := (ko2 z).1
        omega
    obtain ⟨q1_w, s1_w⟩ := gw_PK (p1_w.pa a2) (i := 95) (lo_w := 95) (hi_w := 96) (u := 12) (v := u) (by decide) (by decide) (by decide) u12.1 u12.2 (by decide +kernel) (by decide) (by decide) (by decide) (by decide) (fun k _ => by omega) (fun k _ => by omega)
    exact ⟨[v], h1, x1_w, fun _ => ⟨[u], h2, x2_w, ⟨by decide, by decide⟩, hd_w.pf q1_w (m1_w.tr (a2.pf.tr s1_w))⟩, fun _ => hd_w.pf p1_w m1_w⟩
  · obtain ⟨v, h1, x1_w, p1_w, e1_w, ok, -⟩ := c209 h 1 hp f0_w (wd (i1_w.mp k)) (by decide) (by decide)
    have m1_w : PF N NL h h1 := pf_nl e1_w (fun z => absurd z (by decide))
    refine ⟨[v], h1, x1_w, fun kv => ?_, fun _ => hd_w.pf p1_w m1_w⟩
    have fr : g_fit 100 112 (1, 0, 9999) = true := by decide +kernel
    obtain ⟨u, h2, x2_w, p2_w, e2_w, -⟩ := c211 h1 100 9999 p1_w (ok kv).2 ⟨by decide, by decide, by decide, by decide, fun i w j0 j1 w0_w w1_w => g_fit_ok fr (by omega) (by omega) ⟨w0_w, w1_w, by omega, by omega⟩, fun i j0 j1 => ⟨by omega, by omega, fun k => by omega, fun k => by omega⟩⟩
    exact ⟨[u], h2, x2_w, hd_w.pf p2_w (m1_w.tr (pf_nl e2_w (fun z => absurd z.1 (by decide))))⟩
  · obtain ⟨v, h1, x1_w, p1_w, e1_w, ok, -⟩ := c209 h 2 hp f0_w (wd (i8_w.mp k)) (by decide) (by decide)
    have m1_w : PF N NL h h1 := pf_nl e1_w (fun z => absurd z (by decide))
    refine ⟨[v], h1, x1_w, fun kv => ⟨⟨by decide, by decide⟩, ?_⟩, fun _ => hd_w.pf p1_w m1_w⟩
    have e12_w : h1 182 12 = h 182 12 := e1_w.1 182 12 (fun _ => by decide) (fun z => absurd z (by decide)) (fun z => absurd z (by decide))
    have at1_w := (ok kv).1
    have c0 := hp.2.1.2.2.2.2.2.1
    have t3_w := p1_w.2.1.2.2.1
    have t4_w := p1_w.2.1.2.2.2.1
    have hc_w := hd_w.2.1
    have hin : InI (h1 182 12) := ⟨by omega, by omega⟩
    have q1_w : QK P (r_T 0) (RJ P) (j_up h1 188 99 (h1 182 12)) := dw_QK p1_w.1 (ht_up p1_w.1.1 (by decide) hin) (Or.inl ⟨rfl, by decide⟩) (g_fit_ok (lo_w := 99) (hi_w := 100) (t := (1, 0, 1099)) (by decide +kernel) (by decide) (by decide) ⟨by omega, by omega, hin⟩)
    have u12 : j_up h1 188 99 (h1 182 12) 182 12 = h1 182 12 := up_ne (fun z => absurd z.1 (by decide))
    have u7 : j_up h1 188 99 (h1 182 12) 182 7 = h1 182 7 := up_ne (fun z => absurd z.1 (by decide))
    have s1_w : PF N (fun i => i = 99) h1 (j_up h1 188 99 (h1 182 12)) := ⟨fun o k e e2_w e3_w => up_ne (fun z => e2_w z.1 z.2), by rw [up_ne (fun z => absurd z.1 (by decide))]; exact p1_w.2.1.1, by rw [up_ne (fun z => absurd z.1 (by decide))]; exact ht_fld p1_w.1 rfl, fun _ => up_ne (fun z => absurd z.1 (by decide)), by rw [up_ne (fun z => absurd z.1 (by decide))]; exact Int.le_refl _, by rw [up_ne (fun z => absurd z.1 (by decide))]; exact t3_w⟩
    have p2_w : PK P N (j_up h1 188 99 (h1 182 12)) := ⟨q1_w, s1_w.pt p1_w.2.1, DG.up p1_w.1 p1_w.2.2 (up_ne (fun z => absurd z.2 (by decide))) (up_ne (fun z => absurd z.2 (by decide))) (fun k _ => up_ne (fun z => by have := z.2; omega)) (fun k _ => up_ne (fun z => by have := z.2; omega))⟩
    obtain ⟨h2, x2_w, q2_w, px, ex_w⟩ := c217 _ p2_w (by rw [u12, u7]; omega)
    have b6 := px.2.2.2.2.2.1
    have b7 := px.2.2.2.2.2.2.1
    have b8 := px.2.2.2.2.2.2.2
    rw [u12] at b7 b8
    rw [u7] at b8
    have k := c216 h2 0 0 (by omega) (by omega) (by decide) (by decide) (by decide) (by decide)
    rw [Int.mul_zero, Int.add_zero] at k
    exact ⟨[], h2, x2_w, [], emt h2 0, k, law_E hp hc_w p1_w e1_w at1_w px q2_w ex_w⟩
  · obtain ⟨h1, x1_w, a1_w, -⟩ := c191 h 1 hp (by decide) (by decide)
    exact ⟨[], h1, x1_w, hd_w.pf (hp.pa a1_w) a1_w.pf⟩
end PARE
end
section
/-! ===== the reference's parser: an empty_w draft ===== -/
def G199 (P : Int × Int) (g : Nat × Nat) (F : XP) : Prop := ∀ (h : XH), QK P (r_T 0) (RJ P) h → ∃ h', F 199 [182, 95] ((a_g3, g), h) = some (1, [], ((a_g3, g), h')) ∧ QK P (r_T 0) (RJ P) h' ∧ (∀ o k : Nat, (o = 188 → k < 95) → h' o k = h o k) ∧ (∀ k : Nat, 95 ≤ k → k < 190 → k ≠ 99 → h' 188 k = 0) ∧ h' 188 99 = -1
section PARF
variable {P : Int × Int} {N : Nat} {g : Nat × Nat} {xs : Nat → Int} {L K n : Nat} {ck : Nat → List Nat} {cW : Nat → Nat → Int} {h h' h1 h2 : XH} {F : XP}
def B199 (P : Int × Int) (h : XH) (r : List Int) (h' : XH) : Prop := r = [] ∧ QK P (r_T 0) (RJ P) h' ∧ (∀ o k : Nat, (o = 188 → k < 95) → h' o k = h o k) ∧ (∀ k : Nat, 95 ≤ k → k < 190 → k ≠ 99 → h' 188 k = 0) ∧ h' 188 99 = -1
theorem g_199 (hK_w : 4294967300 ≤ K) : G199 P g (evF xs L ck K cW g_M (n + 1)) := fun h hQ => by
  suffices hs : ∃ r h', evF xs L ck K cW g_M (n + 1) 199 [182, 95] ((a_g3, g), h) = some (1, r, ((a_g3, g), h')) ∧ B199 P h r h' by
    obtain ⟨r, h', e1_w, rfl, e2_w⟩ := hs
    exact ⟨h', e1_w, e2_w⟩
  refine tr_of gm_199 ?_
  show wS _ _ K bb_199 [182, 95, 0] h _
  generalize evF xs L ck K cW g_M n = F
  unfold bb_199
  simp only [wf_4, wf_40, wf_5, wf_50, wf_6, wl_1, wt_1, wu_1, wa_1, wl_4, wt_4, wu_4, wa_4, wl_5, wt_5, wu_5, wa_5, wl_6, wt_6, wu_6, wa_6, wl_9, wt_9, wu_9, wa_9, wl_10, wt_10, wu_10, wa_10, wl_11, wt_11, wu_11, wa_11, wl_13, wt_13, wu_13, wa_13, wl_14, wt_14, wu_14, wa_14, wl_15, wt_15, wu_15, wa_15, wl_16, wt_16, wu_16, wa_16, wl_17, wt_17, wu_17, wa_17, wl_20, wt_20, wu_20, wa_20, wl_21, wt_21, wu_21, wa_21, wl_22, wt_22, wu_22, wa_22, wl_23, wt_23, wu_23, wa_23, wl_24, wt_24, wu_24, wa_24, wl_26, wt_26, wu_26, wa_26, wl_27, wt_27, wu_27, wa_27, wl_28, wt_28, wu_28, wa_28, we_1, we_3, we_10, we_14, we_15, we_16, we_17, we_18, we_20, we_21, we_22, we_24, we_25, we_26, we_27, we_28, we_30, we_31, we_32, wc_20, wc_21, wc_22, wc_24, wc_25, wc_26, wc_27, wc_3, wc_4, wc_7, wc_28, wc_32, ws_1, ws_2, ws_3, ws_4, ws_9, ws_10, ws_11, ws_14, ws_15, ws_16, ws_27, ws_17, ws_20, ws_28, kc_0, kc_1, kn_1, kc_2, kn_2, kc_3, kc_4, kc_5, kc_6, kc_7, kc_8, kc_9, kc_10, kc_12, kc_13, kc_14, kc_16, kc_17, kc_18, kc_19, kc_20, kc_21, kc_22, kc_24, kc_28, kc_30, kc_32, kc_37, kc_40, kc_41, kc_42, kc_43, kc_45, kc_48, kc_56, kc_57, kc_59, kc_60, kc_61, kc_64, kc_73, kc_78, kc_91, kc_95, kc_96, kc_97, kc_98, kc_99, kc_100, kc_112, kc_122, kc_125, kc_126, kc_150, kc_162, kc_163, kc_168, kc_186, kc_190, kc_200, kc_250, kc_255, kc_355, kc_356, kc_404, kc_405, kc_429, kc_573, kc_999, kc_1000, kc_1002, kc_1100, kc_1891, kc_2200, kc_4719, kc_4869, kc_4881, kc_5148, kc_9999, kn_9999, kc_10000, kc_12345, kc_19741, kc_25433, kc_65536, kc_320403, kc_628412, kc_629093, kc_660401, kc_679843, kc_918640, kc_979410, kc_1178088, kc_6232410, kc_24644941, kc_36238189, kc_38270444, kc_392531318, kc_425693491, kc_1103515245, kc_1342154595, kc_2147483648, kc_42328242873, kc_891704255789, kc_1722105685577, kc_1858726030364, ct_0, ct_1, ct_2, ct_3, ct_4, ct_5, cf_0, cf_1, cf_2, cf_3, cf_4, cf_5, w_ty6, w_ty7, m_sv, m_z0, m_hd, m_g0, m_gs, m_s0, m_ss, m_ap, m_an, forall_const, true_and, and_true, ne_eq, not_true_eq_false, not_false_eq_true, false_implies, true_implies, implies_true, eq_self, reduceCtorEq, Nat.reduceDiv, Nat.reduceMod, Int.reduceToNat, or_true, true_or, or_false, false_or, or_self, m_it, m_if, m_c1, m_01, m_02, m_03, m_04, m_10, m_12, m_13, m_14, m_20, m_21, m_23, m_24, m_30, m_31, m_32, m_34, m_40, m_41, m_42, m_43]
  refine w_lp (fun en h' => ∃ k : Nat, en = [182, 95, (k : Int)] ∧ k ≤ 95 ∧ QK P (r_T 0) (RJ P) h' ∧ (∀ o k : Nat, (o = 188 → k < 95) → h' o k = h o k) ∧ ∀ i : Nat, 95 ≤ i → i < 95 + k → h' 188 i = 0) (fun en _ => 95 - (en.getD 2 0).toNat) ⟨0, rfl, by omega, hQ, fun _ _ _ => rfl, fun i i0 i1_w => by omega⟩ ?_
  rintro en h1 ⟨k, rfl, k0_w, q1_w, f1_w, z1⟩
  refine ⟨?_, ?_⟩
  · show 95 - ((k : Int)).toNat < K
    omega
  simp only [wf_4, wf_40, wf_5, wf_50, wf_6, wl_1, wt_1, wu_1, wa_1, wl_4, wt_4, wu_4, wa_4, wl_5, wt_5, wu_5, wa_5, wl_6, wt_6, wu_6, wa_6, wl_9, wt_9, wu_9, wa_9, wl_10, wt_10, wu_10, wa_10, wl_11, wt_11, wu_11, wa_11, wl_13, wt_13, wu_13, wa_13, wl_14, wt_14, wu_14, wa_14, wl_15, wt_15, wu_15, wa_15, wl_16, wt_16, wu_16, wa_16, wl_17, wt_17, wu_17, wa_17, wl_20, wt_20, wu_20, wa_20, wl_21, wt_21, wu_21, wa_21, wl_22, wt_22, wu_22, wa_22, wl_23, wt_23, wu_23, wa_23, wl_24, wt_24, wu_24, wa_24, wl_26, wt_26, wu_26, wa_26, wl_27, wt_27, wu_27, wa_27, wl_28, wt_28, wu_28, wa_28, we_1, we_3, we_10, we_14, we_15, we_16, we_17, we_18, we_20, we_21, we_22, we_24, we_25, we_26, we_27, we_28, we_30, we_31, we_32, wc_20, wc_21, wc_22, wc_24, wc_25, wc_26, wc_27, wc_3, wc_4, wc_7, wc_28, wc_32, ws_1, ws_2, ws_3, ws_4, ws_9, ws_10, ws_11, ws_14, ws_15, ws_16, ws_27, ws_17, ws_20, ws_28, kc_0, kc_1, kn_1, kc_2, kn_2, kc_3, kc_4, kc_5, kc_6, kc_7, kc_8, kc_9, kc_10, kc_12, kc_13, kc_14, kc_16, kc_17, kc_18, kc_19, kc_20, kc_21, kc_22, kc_24, kc_28, kc_30, kc_32, kc_37, kc_40, kc_41, kc_42, kc_43, kc_45, kc_48, kc_56, kc_57, kc_59, kc_60, kc_61, kc_64, kc_73, kc_78, kc_91, kc_95, kc_96, kc_97, kc_98, kc_99, kc_100, kc_112, kc_122, kc_125, kc_126, kc_150, kc_162, kc_163, kc_168, kc_186, kc_190, kc_200, kc_250, kc_255, kc_355, kc_356, kc_404, kc_405, kc_429, kc_573, kc_999, kc_1000, kc_1002, kc_1100, kc_1891, kc_2200, kc_4719, kc_4869, kc_4881, kc_5148, kc_9999, kn_9999, kc_10000, kc_12345, kc_19741, kc_25433, kc_65536, kc_320403, kc_628412, kc_629093, kc_660401, kc_679843, kc_918640, kc_979410, kc_1178088, kc_6232410, kc_24644941, kc_36238189, kc_38270444, kc_392531318, kc_425693491, kc_1103515245, kc_1342154595, kc_2147483648, kc_42328242873, kc_891704255789, kc_1722105685577, kc_1858726030364, ct_0, ct_1, ct_2, ct_3, ct_4, ct_5, cf_0, cf_1, cf_2, cf_3, cf_4, cf_5, w_ty6, w_ty7, m_sv, m_z0, m_hd, m_g0, m_gs, m_s0, m_ss, m_ap, m_an, forall_const, true_and, and_true, ne_eq, not_true_eq_false, not_false_eq_true, false_implies, true_implies, implies_true, eq_self, reduceCtorEq, Nat.reduceDiv, Nat.reduceMod, Int.reduceToNat, or_true, true_or, or_false, false_or, or_self, m_it, m_if, m_c1, m_01, m_02, m_03, m_04, m_10, m_12, m_13, m_14, m_20, m_21, m_23, m_24, m_30, m_31, m_32, m_34, m_40, m_41, m_42, m_43]
  refine ⟨fun hk => ?_, fun hk => ?_⟩
  · rw [jadd (x := 95) (y := (k : Int)) (by omega) (by omega), jinc (by omega) (by omega), show (95 + (k : Int)).toNat = 95 + k by omega]
    refine ⟨⟨by omega, by omega⟩, ⟨k + 1, rfl, by omega, dw_QK q1_w (ht_up q1_w.1 (by decide) in_0) (Or.inl ⟨rfl, by omega⟩) (g_fit_ok (lo_w := 95) (hi_w := 190) (t := (1, 0, 0)) (by decide +kernel) (by omega) (by omega) ⟨by decide, by decide, in_0⟩), fun o i e => ?_, fun i i0 i1_w => ?_⟩, ?_⟩
    · rw [up_ne (fun z => by have := e z.1; have := z.2; omega)]
      exact f1_w o i e
    · by_cases e : i = 95 + k
      · rw [e, up_eq]
      · rw [up_ne (fun z => e z.2)]
        exact z1 i i0 (by omega)
    · show 95 - ((k : Int) + 1).toNat < 95 - ((k : Int)).toNat
      omega
  · rw [jadd (x := 95) (y := 4) (by omega) (by omega), show ((95 : Int) + 4).toNat = 99 from rfl]
    have hin : InI (-1) := ⟨by decide, by decide⟩
    refine ⟨⟨by decide, by decide⟩, rfl, dw_QK q1_w (ht_up q1_w.1 (by decide) hin) (Or.inl ⟨rfl, by decide⟩) (g_fit_ok (lo_w := 99) (hi_w := 100) (t := (1, -1, -1)) (by decide +kernel) (by decide) (by decide) ⟨by decide, by decide, hin⟩), fun o i e => ?_, fun i i0 i1_w i2_w => ?_, up_eq⟩
    · rw [up_ne (fun z => by have := e z.1; have := z.2; omega)]
      exact f1_w o i e
    · rw [up_ne (fun z => i2_w z.2)]
      exact z1 i i0 (by omega)
end PARF
end
section
/-! ===== the reference's parser: a line of what is_w to be done ===== -/
def GV (f : Nat) (ps_w : List IT) (t : IT) (P : Int × Int) (g : Nat × Nat) (F : XP) : Prop := ∀ (h : XH) (av : List Int), QK P (r_T 0) (RJ P) h → IL P ps_w av → av.getD 0 0 = 182 → ∃ v, F f av ((a_g3, g), h) = some (1, [v], ((a_g3, g), h)) ∧ IV P t v
/-- at, fault and the four numbers_w of a line alone_w are written_w -/
def PL (N : Nat) (lo_w hi_w : Nat) (h h' : XH) : Prop := (∀ o k : Nat, (o = 182 → k ≠ 7 ∧ k ≠ 8) → (o = 191 → k < lo_w ∨ hi_w ≤ k) → h' o k = h o k) ∧ 0 ≤ h' 182 8 ∧ InI (h' 182 8) ∧ (h 182 8 ≠ 0 → h' 182 8 = h 182 8) ∧ h 182 7 ≤ h' 182 7 ∧ h' 182 7 ≤ (N : Int)
def G215 (P : Int × Int) (N : Nat) (g : Nat × Nat) (F : XP) : Prop := ∀ (h : XH) (a : Nat) (b : Int), PK P N h → 125 ≤ a → a ≤ 246 → 0 ≤ b → b ≤ 3 → ∃ h', F 215 [182, (a : Int), b] ((a_g3, g), h) = some (1, [], ((a_g3, g), h')) ∧ PK P N h' ∧ PL N a (a + 4) h h' ∧ (h' 182 8 = 0 → LineOK P (h' 191 a) (h' 191 (a + 1)) (h' 191 (a + 2)) (h' 191 (a + 3)))
section PARG
variable {P : Int × Int} {N : Nat} {g : Nat × Nat} {xs : Nat → Int} {L K n : Nat} {ck : Nat → List Nat} {cW : Nat → Nat → Int} {h h' h1 h2 : XH} {F : XP}
theorem gv_of {f : Nat} {ps_w : List IT} {t : IT} (hK2 : 20000000000 ≤ K) (hd_w : r_dp f < n) (hn : n < 99999) (hP : qP (r_T 0) f = ps_w) (hR : qR (r_T 0) f = [t]) (hC : m_in f = true) (hW : m_W f = ([], [])) : GV f ps_w t P g (evF xs L ck K cW g_M n) := fun h av hQ hv h0 => by
  obtain ⟨v, h2, e1_w, e2_w, e3_w, e4_w⟩ := use1 (r_ref hK2 hd_w hn) hP hR hQ hv
  have k := (fr_all n f av (a_g3, g) h 1 [v] (a_g3, g) h2 hC rfl (Or.inr h0) e1_w).2
  rw [hW] at k
  rw [Fr.pure k] at e1_w
  exact ⟨v, e1_w, e4_w⟩
theorem PA.pl {lo_w hi_w : Nat} (a : PA N h h') : PL N lo_w hi_w h h' := ⟨fun o k e _ => a.1 o k e, a.2⟩
theorem PL.tr {lo_w hi_w : Nat} (a : PL N lo_w hi_w h h') (b : PL N lo_w hi_w h' h2) : PL N lo_w hi_w h h2 := by
  obtain ⟨a1_w, a2, a3, a4, a5, a6⟩ := a
  obtain ⟨b1, b2, b3, b4, b5, b6⟩ := b
  exact ⟨fun o k e e2_w => (b1 o k e e2_w).trans (a1_w o k e e2_w), b2, b3, fun e => by rw [b4 (by rw [a4 e]; exact e), a4 e], by omega, b6⟩
/-- a cell_w of the drafted lines is_w written_w -/
theorem lw_PK (hp : PK P N h) {lo_w hi_w i : Nat} {v : Int} (h0 : 125 ≤ i) (h1 : lo_w ≤ i) (h2 : i < hi_w) (hv : InI v) : PK P N (j_up h 191 i v) ∧ PL N lo_w hi_w h (j_up h 191 i v) := by
  have q : QK P (r_T 0) (RJ P) (j_up h 191 i v) := dw_QK hp.1 (ht_up hp.1.1 (by decide) hv) (Or.inr (Or.inr (Or.inr ⟨rfl, h0⟩))) (fun r hr k1_w k2 => by
    have hr2 : r ∈ [(0, 1, ((1, 0, 30) : IT)), (1, 250, (1, (-2147483648), 2147483647))] := hr
    rcases List.mem_cons.mp hr2 with rfl | hr3
    · have : i < 1 := k2
      omega
    · rw [List.mem_singleton] at hr3
      subst hr3
      exact IV.top hv)
  have e8 : j_up h 191 i v 182 8 = h 182 8 := up_ne (fun z => absurd z.1 (by decide))
  have e7_w : j_up h 191 i v 182 7 = h 182 7 := up_ne (fun z => absurd z.1 (by decide))
  have e : PL N lo_w hi_w h (j_up h 191 i v) := ⟨fun o k e e2_w => up_ne (fun z => by have := e2_w z.1; have := z.2; omega), by rw [e8]; exact hp.2.1.1, by rw [e8]; exact ht_fld hp.1 rfl, fun _ => e8, by rw [e7_w]; exact Int.le_refl _, by rw [e7_w]; exact hp.2.1.2.2.1⟩
  obtain ⟨_, ⟨p1_w, p2_w, p3_w, p4_w, p5_w, p6_w, p7_w, p8_w⟩, d⟩ := hp
  have o : ∀ q : Nat, q ≠ 191 → ∀ k, j_up h 191 i v q k = h q k := fun q hq k => up_ne (fun z => hq z.1)
  refine ⟨⟨q, ⟨by rw [e8]; exact p1_w, by rw [e7_w]; exact p2_w, by rw [e7_w]; exact p3_w, p4_w, by rw [o 184 (by decide)]; exact p5_w, by rw [o 182 (by decide)]; exact p6_w, by rw [e7_w, o 182 (by decide)]; exact p7_w, fun j hj hs => ?_⟩, ?_⟩, e⟩
  · rw [o 184 (by decide)] at hs
    rw [o 186 (by decide)]
    exact p8_w j hj hs
  · unfold DG
    have e188 : j_up h 191 i v 188 = h 188 := funext fun k => o 188 (by decide) k
    rw [e188]
    exact d
def B215 (P : Int × Int) (N a : Nat) (h : XH) (r : List Int) (h' : XH) : Prop := r = [] ∧ PK P N h' ∧ PL N a (a + 4) h h' ∧ (h' 182 8 = 0 → LineOK P (h' 191 a) (h' 191 (a + 1)) (h' 191 (a + 2)) (h' 191 (a + 3)))
theorem g_215 (c200 : G200 P N g (evF xs L ck K cW g_M n)) (c205 : G205 P N g (evF xs L ck K cW g_M n)) (c225 : GV 225 [(4, 182, 182)] (1, 0, 12) P g (evF xs L ck K cW g_M n)) (c227 : GV 227 [(4, 182, 182)] (1, 0, 4) P g (evF xs L ck K cW g_M n)) (c228 : GV 228 [(4, 182, 182)] (7, 0, 0) P g (evF xs L ck K cW g_M n)) (c233 : GV 233 [(4, 182, 182), (5, 0, 0)] (1, (-1), 12) P g (evF xs L ck K cW g_M n)) (c234 : GV 234 [(4, 182, 182), (5, 0, 0)] (1, 0, 9999) P g (evF xs L ck K cW g_M n)) : G215 P N g (evF xs L ck K cW g_M (n + 1)) := fun h a b hp a0_w a1_w b0 b3 => by
  suffices hs : ∃ r h', evF xs L ck K cW g_M (n + 1) 215 [182, (a : Int), b] ((a_g3, g), h) = some (1, r, ((a_g3, g), h')) ∧ B215 P N a h r h' by
    obtain ⟨r, h', e1_w, rfl, e2_w⟩ := hs
    exact ⟨h', e1_w, e2_w⟩
  refine tr_of gm_215 ?_
  show wS _ _ K bb_215 [182, (a : Int), b, 0] h _
  generalize evF xs L ck K cW g_M n = F at c200 c205 c225 c227 c228 c233 c234 ⊢
  unfold bb_215
  simp only [wf_4, wf_40, wf_5, wf_50, wf_6, wl_1, wt_1, wu_1, wa_1, wl_4, wt_4, wu_4, wa_4, wl_5, wt_5, wu_5, wa_5, wl_6, wt_6, wu_6, wa_6, wl_9, wt_9, wu_9, wa_9, wl_10, wt_10, wu_10, wa_10, wl_11, wt_11, wu_11, wa_11, wl_13, wt_13, wu_13, wa_13, wl_14, wt_14, wu_14, wa_14, wl_15, wt_15, wu_15, wa_15, wl_16, wt_16, wu_16, wa_16, wl_17, wt_17, wu_17, wa_17, wl_20, wt_20, wu_20, wa_20, wl_21, wt_21, wu_21, wa_21, wl_22, wt_22, wu_22, wa_22, wl_23, wt_23, wu_23, wa_23, wl_24, wt_24, wu_24, wa_24, wl_26, wt_26, wu_26, wa_26, wl_27, wt_27, wu_27, wa_27, wl_28, wt_28, wu_28, wa_28, we_1, we_3, we_10, we_14, we_15, we_16, we_17, we_18, we_20, we_21, we_22, we_24, we_25, we_26, we_27, we_28, we_30, we_31, we_32, wc_20, wc_21, wc_22, wc_24, wc_25, wc_26, wc_27, wc_3, wc_4, wc_7, wc_28, wc_32, ws_1, ws_2, ws_3, ws_4, ws_9, ws_10, ws_11, ws_14, ws_15, ws_16, ws_27, ws_17, ws_20, ws_28, kc_0, kc_1, kn_1, kc_2, kn_2, kc_3, kc_4, kc_5, kc_6, kc_7, kc_8, kc_9, kc_10, kc_12, kc_13, kc_14, kc_16, kc_17, kc_18, kc_19, kc_20, kc_21, kc_22, kc_24, kc_28, kc_30, kc_32, kc_37, kc_40, kc_41, kc_42, kc_43, kc_45, kc_48, kc_56, kc_57, kc_59, kc_60, kc_61, kc_64, kc_73, kc_78, kc_91, kc_95, kc_96, kc_97, kc_98, kc_99, kc_100, kc_112, kc_122, kc_125, kc_126, kc_150, kc_162, kc_163, kc_168, kc_186, kc_190, kc_200, kc_250, kc_255, kc_355, kc_356, kc_404, kc_405, kc_429, kc_573, kc_999, kc_1000, kc_1002, kc_1100, kc_1891, kc_2200, kc_4719, kc_4869, kc_4881, kc_5148, kc_9999, kn_9999, kc_10000, kc_12345, kc_19741, kc_25433, kc_65536, kc_320403, kc_628412, kc_629093, kc_660401, kc_679843, kc_918640, kc_979410, kc_1178088, kc_6232410, kc_24644941, kc_36238189, kc_38270444, kc_392531318, kc_425693491, kc_1103515245, kc_1342154595, kc_2147483648, kc_42328242873, kc_891704255789, kc_1722105685577, kc_1858726030364, ct_0, ct_1, ct_2, ct_3, ct_4, ct_5, cf_0, cf_1, cf_2, cf_3, cf_4, cf_5, w_ty6, w_ty7, m_sv, m_z0, m_hd, m_g0, m_gs, m_s0, m_ss, m_ap, m_an, forall_const, true_and, and_true, ne_eq, not_true_eq_false, not_false_eq_true, false_implies, true_implies, implies_true, eq_self, reduceCtorEq, Nat.reduceDiv, Nat.reduceMod, Int.reduceToNat, or_true, true_or, or_false, false_or, or_self, m_it, m_if, m_c1, m_01, m_02, m_03, m_04, m_10, m_12, m_13, m_14, m_20, m_21, m_23, m_24, m_30, m_31, m_32, m_34, m_40, m_41, m_42, m_43]
  have j1 : j_iop 0 (a : Int) 1 = ((a + 1 : Nat) : Int) := by
    rw [jadd (by omega) (by omega)]
    omega
  have j2_w : j_iop 0 (a : Int) 2 = ((a + 2 : Nat) : Int) := by
    rw [jadd (by omega) (by omega)]
    omega
  have j3_w : j_iop 0 (a : Int) 3 = ((a + 3 : Nat) : Int) := by
    rw [jadd (by omega) (by omega)]
    omega
  simp only [j1, j2_w, j3_w, Int.toNat_natCast]
  have bd : (0 ≤ (a : Int) ∧ (a : Int) < 250) ∧ (0 ≤ ((a + 1 : Nat) : Int) ∧ ((a + 1 : Nat) : Int) < 250) ∧ (0 ≤ ((a + 2 : Nat) : Int) ∧ ((a + 2 : Nat) : Int) < 250) ∧ (0 ≤ ((a + 3 : Nat) : Int) ∧ ((a + 3 : Nat) : Int) < 250) := by omega
  obtain ⟨bd0, bd1, bd2, bd3⟩ := bd
  have inb_w : InI b := ⟨by omega, by omega⟩
  obtain ⟨p1_w, l1⟩ := lw_PK hp (lo_w := a) (hi_w := a + 4) (i := a) (v := b) (by omega) (by omega) (by omega) inb_w
  obtain ⟨p2_w, l2⟩ := lw_PK p1_w (lo_w := a) (hi_w := a + 4) (i := a + 1) (v := 0) (by omega) (by omega) (by omega) in_0
  obtain ⟨p3_w, l3⟩ := lw_PK p2_w (lo_w := a) (hi_w := a + 4) (i := a + 2) (v := 0) (by omega) (by omega) (by omega) in_0
  obtain ⟨p4_w, l4⟩ := lw_PK p3_w (lo_w := a) (hi_w := a + 4) (i := a + 3) (v := 0) (by omega) (by omega) (by omega) in_0
  have l0 := l1.tr (l2.tr (l3.tr l4))
  have cb : j_up (j_up (j_up (j_up h 191 a b) 191 (a + 1) 0) 191 (a + 2) 0) 191 (a + 3) 0 191 a = b := by
    rw [up_ne (fun z => by have := z.2; omega), up_ne (fun z => by have := z.2; omega), up_ne (fun z => by have := z.2; omega), up_eq]
  generalize j_up (j_up (j_up (j_up h 191 a b) 191 (a + 1) 0) 191 (a + 2) 0) 191 (a + 3) 0 = H at p4_w l0 cb ⊢
  refine ⟨bd0, bd1, bd2, bd3, fun hb_w => ?_, fun hb_w => ⟨fun hb1 => ?_, fun hb1 => ⟨fun hb2 => ?_, fun hb2 => ⟨rfl, p4_w, l0, fun _ => ?_⟩⟩⟩⟩
  · obtain ⟨v, x1_w, iv0, iv1, iv2⟩ := c228 H [182] p4_w.1 ⟨rfl, trivial⟩ rfl
    obtain ⟨u, h2, x2_w, a2, iu, ok2, -⟩ := c205 H 8 v p4_w (by decide) iv1 (by omega)
    obtain ⟨q1_w, m1_w⟩ := lw_PK (p4_w.pa a2) (lo_w := a) (hi_w := a + 4) (i := a + 1) (v := u) (by omega) (by omega) (by omega) iu
    have t1_w := l0.tr (a2.pl.tr m1_w)
    have c1_w : j_up h2 191 (a + 1) u 191 a = b := by rw [up_ne (fun z => by have := z.2; omega), a2.ob (by decide), cb]
    have c2 : j_up h2 191 (a + 1) u 191 (a + 1) = u := up_eq
    have e8 : j_up h2 191 (a + 1) u 182 8 = h2 182 8 := up_ne (fun z => absurd z.1 (by decide))
    refine ⟨[v], H, x1_w, [u], h2, x2_w, bd1, ?_⟩
    rw [show j_hd [u] = u from rfl]
    generalize j_up h2 191 (a + 1) u = H1_w at q1_w m1_w t1_w c1_w c2 e8 ⊢
    refine ⟨fun z => ⟨bd2, ?_⟩, fun z => ?_⟩
    · have ez : j_up H1_w 191 (a + 2) 0 182 8 = H1_w 182 8 := up_ne (fun z => absurd z.1 (by decide))
      obtain ⟨q2_w, m2_w⟩ := lw_PK q1_w (lo_w := a) (hi_w := a + 4) (i := a + 2) (v := 0) (by omega) (by omega) (by omega) in_0
      obtain ⟨q3_w, m3_w⟩ := lw_PK q2_w (lo_w := a) (hi_w := a + 4) (i := a + 3) (v := 0) (by omega) (by omega) (by omega) in_0
      refine ⟨fun _ => ⟨bd3, rfl, q3_w, t1_w.tr (m2_w.tr m3_w), fun y => ?_⟩, fun y => by omega⟩
      rw [up_ne (fun z => absurd z.1 (by decide)), ez] at y
      omega
    · have z1 : h2 182 8 = 0 := by
        have := q1_w.2.1.1
        omega
      obtain ⟨u0, u1, -⟩ := ok2 z1
      have mP := q_nM p4_w.1
      obtain ⟨w, y1, iw0, iw1, iw2⟩ := c233 H1_w [182, u] q1_w.1 ⟨rfl, ⟨u0, by omega, by omega⟩, trivial⟩ rfl
      obtain ⟨t, h3, x3, a3, it, ok3, -⟩ := c200 H1_w 0 w q1_w in_0 iw2
      obtain ⟨q2_w, m2_w⟩ := lw_PK (q1_w.pa a3) (lo_w := a) (hi_w := a + 4) (i := a + 2) (v := t) (by omega) (by omega) (by omega) it
      have t2_w := t1_w.tr (a3.pl.tr m2_w)
      have d1_w : j_up h3 191 (a + 2) t 191 a = b := by rw [up_ne (fun z => by have := z.2; omega), a3.ob (by decide), c1_w]
      have d2_w : j_up h3 191 (a + 2) t 191 (a + 1) = u := by rw [up_ne (fun z => by have := z.2; omega), a3.ob (by decide), c2]
      have d3_w : j_up h3 191 (a + 2) t 191 (a + 2) = t := up_eq
      have f8_w : j_up h3 191 (a + 2) t 182 8 = h3 182 8 := up_ne (fun z => absurd z.1 (by decide))
      refine ⟨[w], H1_w, y1, [t], h3, x3, bd2, ?_⟩
      rw [show j_hd [t] = t from rfl]
      generalize j_up h3 191 (a + 2) t = H2_w at q2_w m2_w t2_w d1_w d2_w d3_w f8_w ⊢
      refine ⟨fun z => ⟨bd3, ?_⟩, fun z => ?_⟩
      · obtain ⟨q3_w, m3_w⟩ := lw_PK q2_w (lo_w := a) (hi_w := a + 4) (i := a + 3) (v := 0) (by omega) (by omega) (by omega) in_0
        refine ⟨rfl, q3_w, t2_w.tr m3_w, fun y => ?_⟩
        rw [up_ne (fun z => absurd z.1 (by decide))] at y
        omega
      · have z2 : h3 182 8 = 0 := by
          have := q2_w.2.1.1
          omega
        obtain ⟨t0_w, tw, -⟩ := ok3 z2
        obtain ⟨s, y2, is0, is1, is2⟩ := c234 H2_w [182, u] q2_w.1 ⟨rfl, ⟨u0, by omega, by omega⟩, trivial⟩ rfl
        obtain ⟨o, h4, x4_w, a4, io, ok4, -⟩ := c200 H2_w 0 s q2_w in_0 is2
        obtain ⟨q3_w, m3_w⟩ := lw_PK (q2_w.pa a4) (lo_w := a) (hi_w := a + 4) (i := a + 3) (v := o) (by omega) (by omega) (by omega) io
        refine ⟨[s], H2_w, y2, [o], h4, x4_w, bd3, rfl, q3_w, t2_w.tr (a4.pl.tr m3_w), fun y => ?_⟩
        rw [show j_hd [o] = o from rfl] at y ⊢
        rw [up_ne (fun z => absurd z.1 (by decide))] at y
        obtain ⟨o0_w, o1, -⟩ := ok4 y
        rw [up_ne (fun z => by have := z.2; omega), up_ne (fun z => by have := z.2; omega), up_ne (fun z => by have := z.2; omega), up_eq, a4.ob (by decide), d1_w, d2_w, d3_w]
        exact ⟨fun _ => ⟨u0, by omega, t0_w, by omega, o0_w, by omega⟩, fun z => by omega, fun z => by omega⟩
  · obtain ⟨v, x1_w, iv0, iv1, iv2⟩ := c228 H [182] p4_w.1 ⟨rfl, trivial⟩ rfl
    obtain ⟨u, h2, x2_w, a2, iu, ok2, -⟩ := c205 H 8 v p4_w (by decide) iv1 (by omega)
    obtain ⟨q1_w, m1_w⟩ := lw_PK (p4_w.pa a2) (lo_w := a) (hi_w := a + 4) (i := a + 1) (v := u) (by omega) (by omega) (by omega) iu
    have t1_w := l0.tr (a2.pl.tr m1_w)
    have c1_w : j_up h2 191 (a + 1) u 191 a = b := by rw [up_ne (fun z => by have := z.2; omega), a2.ob (by decide), cb]
    have c2 : j_up h2 191 (a + 1) u 191 (a + 1) = u := up_eq
    have e8 : j_up h2 191 (a + 1) u 182 8 = h2 182 8 := up_ne (fun z => absurd z.1 (by decide))
    refine ⟨[v], H, x1_w, [u], h2, x2_w, bd1, ?_⟩
    rw [show j_hd [u] = u from rfl]
    generalize j_up h2 191 (a + 1) u = H1_w at q1_w m1_w t1_w c1_w c2 e8 ⊢
    obtain ⟨w, y1, iw0, iw1, iw2⟩ := c227 H1_w [182] q1_w.1 ⟨rfl, trivial⟩ rfl
    obtain ⟨t, h3, x3, a3, it, ok3, -⟩ := c205 H1_w 4 w q1_w (by decide) iw0 (by omega)
    obtain ⟨q2_w, m2_w⟩ := lw_PK (q1_w.pa a3) (lo_w := a) (hi_w := a + 4) (i := a + 2) (v := t) (by omega) (by omega) (by omega) it
    have t2_w := t1_w.tr (a3.pl.tr m2_w)
    have d1_w : j_up h3 191 (a + 2) t 191 a = b := by rw [up_ne (fun z => by have := z.2; omega), a3.ob (by decide), c1_w]
    have d2_w : j_up h3 191 (a + 2) t 191 (a + 1) = u := by rw [up_ne (fun z => by have := z.2; omega), a3.ob (by decide), c2]
    have d3_w : j_up h3 191 (a + 2) t 191 (a + 2) = t := up_eq
    have f8_w : j_up h3 191 (a + 2) t 182 8 = h3 182 8 := up_ne (fun z => absurd z.1 (by decide))
    refine ⟨[w], H1_w, y1, [t], h3, x3, bd2, ?_⟩
    rw [show j_hd [t] = t from rfl]
    generalize j_up h3 191 (a + 2) t = H2_w at q2_w m2_w t2_w d1_w d2_w d3_w f8_w ⊢
    obtain ⟨s, y2, is0, is1, is2⟩ := c225 H2_w [182] q2_w.1 ⟨rfl, trivial⟩ rfl
    have js : j_iop 1 s 1 = s - 1 := jsub (by omega) (by omega)
    obtain ⟨o, h4, x4_w, a4, io, ok4, -⟩ := c200 H2_w 0 (s - 1) q2_w in_0 ⟨by omega, by omega⟩
    obtain ⟨q3_w, m3_w⟩ := lw_PK (q2_w.pa a4) (lo_w := a) (hi_w := a + 4) (i := a + 3) (v := o) (by omega) (by omega) (by omega) io
    refine ⟨[s], H2_w, y2, [o], h4, by rw [show j_hd [s] = s from rfl, js]; exact x4_w, bd3, rfl, q3_w, t2_w.tr (a4.pl.tr m3_w), fun y => ?_⟩
    rw [show j_hd [o] = o from rfl] at y ⊢
    rw [up_ne (fun z => absurd z.1 (by decide))] at y
    have y3 := pa_0 a4 y
    rw [f8_w] at y3
    have y4 := pa_0 a3 y3
    rw [e8] at y4
    obtain ⟨o0_w, o1, -⟩ := ok4 y
    obtain ⟨t0_w, tw, -⟩ := ok3 y3
    obtain ⟨u0, u1, -⟩ := ok2 y4
    have mP := q_nM p4_w.1
    rw [up_ne (fun z => by have := z.2; omega), up_ne (fun z => by have := z.2; omega), up_ne (fun z => by have := z.2; omega), up_eq, a4.ob (by decide), d1_w, d2_w, d3_w]
    exact ⟨fun z => by omega, fun _ => ⟨u0, by omega, t0_w, by omega, o0_w, by omega⟩, fun z => by omega⟩
  · obtain ⟨v, x1_w, iv0, iv1, iv2⟩ := c225 H [182] p4_w.1 ⟨rfl, trivial⟩ rfl
    have js : j_iop 1 v 1 = v - 1 := jsub (by omega) (by omega)
    obtain ⟨u, h2, x2_w, a2, iu, ok2, -⟩ := c200 H 0 (v - 1) p4_w in_0 ⟨by omega, by omega⟩
    obtain ⟨q1_w, m1_w⟩ := lw_PK (p4_w.pa a2) (lo_w := a) (hi_w := a + 4) (i := a + 1) (v := u) (by omega) (by omega) (by omega) iu
    have t1_w := l0.tr (a2.pl.tr m1_w)
    have c1_w : j_up h2 191 (a + 1) u 191 a = b := by rw [up_ne (fun z => by have := z.2; omega), a2.ob (by decide), cb]
    have c2 : j_up h2 191 (a + 1) u 191 (a + 1) = u := up_eq
    have e8 : j_up h2 191 (a + 1) u 182 8 = h2 182 8 := up_ne (fun z => absurd z.1 (by decide))
    refine ⟨[v], H, x1_w, [u], h2, by rw [show j_hd [v] = v from rfl, js]; exact x2_w, bd1, ?_⟩
    rw [show j_hd [u] = u from rfl]
    generalize j_up h2 191 (a + 1) u = H1_w at q1_w m1_w t1_w c1_w c2 e8 ⊢
    obtain ⟨o, h4, x4_w, a4, io, ok4, -⟩ := c200 H1_w 0 9999 q1_w in_0 ⟨by decide, by decide⟩
    obtain ⟨q3_w, m3_w⟩ := lw_PK (q1_w.pa a4) (lo_w := a) (hi_w := a + 4) (i := a + 2) (v := o) (by omega) (by omega) (by omega) io
    refine ⟨[o], h4, x4_w, bd2, rfl, q3_w, t1_w.tr (a4.pl.tr m3_w), fun y => ?_⟩
    rw [show j_hd [o] = o from rfl] at y ⊢
    rw [up_ne (fun z => absurd z.1 (by decide))] at y
    have y3 := pa_0 a4 y
    rw [e8] at y3
    obtain ⟨o0_w, o1, -⟩ := ok4 y
    obtain ⟨u0, u1, -⟩ := ok2 y3
    rw [up_ne (fun z => by have := z.2; omega), up_ne (fun z => by have := z.2; omega), up_eq, a4.ob (by decide), c1_w, c2]
    exact ⟨fun z => by omega, fun z => by omega, fun _ => ⟨u0, by omega, o0_w, by omega⟩⟩
  · rw [cb]
    exact ⟨fun z => absurd z hb_w, fun z => absurd z hb1, fun z => absurd z hb2⟩
end PARG
end
section
/-! ===== the reference's parser: what is_w to be done ===== -/
def G190 (P : Int × Int) (g : Nat × Nat) (F : XP) : Prop := ∀ (h : XH), QK P (r_T 0) (RJ P) h → DG h → 0 ≤ h 182 12 → h 182 12 ≤ 1001 → ∃ N h', F 190 [182] ((a_g3, g), h) = some (1, [], ((a_g3, g), h')) ∧ PK P N h' ∧ h' 182 7 = 0 ∧ ∀ o k : Nat, (o = 182 → k ≠ 2 ∧ k ≠ 3 ∧ k ≠ 7 ∧ k ≠ 8) → (o ≠ 184 ∧ o ≠ 185 ∧ o ≠ 186) → h' o k = h o k
/-- what lasts from call to call, beside the class's side_w -/
def LQ (h : XH) : Prop := ∃ P, QK P (r_T 0) (RJ P) h ∧ DG h ∧ 0 ≤ h 182 12 ∧ h 182 12 ≤ 1001
def B214 (P : Int × Int) (r : List Int) (h' : XH) : Prop := ∃ v, r = [v] ∧ InI v ∧ QK P (r_T 0) (RJ P) h' ∧ DG h' ∧ 0 ≤ h' 182 12 ∧ h' 182 12 ≤ 1001
section PARH
variable {P : Int × Int} {N : Nat} {g : Nat × Nat} {xs : Nat → Int} {L K n : Nat} {ck : Nat → List Nat} {cW : Nat → Nat → Int} {h h' h1 h2 : XH} {F : XP}
/-- the lines that are drafted -/
def DW (P : Int × Int) (m : Nat) (h : XH) : Prop := h 182 8 = 0 → ∀ i : Nat, i < m → LineOK P (h 191 (125 + 4 * i)) (h 191 (126 + 4 * i)) (h 191 (127 + 4 * i)) (h 191 (128 + 4 * i))
theorem DW.pa {m : Nat} (d : DW P m h) (a : PA N h h') : DW P m h' := fun z i hi_w => by
  rw [a.ob (by decide)]
  exact d (pa_0 a z) i hi_w
theorem cp_214 {m : Nat} {R : Nat → List Int → List Int → XH → Prop} (hK_w : 4294967300 ≤ K) (hp : PK P N h) (m30 : m ≤ 30) (hw : ∀ i : Nat, i < m → LineOK P (h 191 (125 + 4 * i)) (h 191 (126 + 4 * i)) (h 191 (127 + 4 * i)) (h 191 (128 + 4 * i))) (c0 : 0 ≤ h 182 12) (c1_w : h 182 12 ≤ 1001) (hR : ∀ en h', QK P (r_T 0) (RJ P) h' → DG h' → h' 182 12 = h 182 12 → R 0 [] en h') : wS (a_g3, g) F K (sx 12 (sx 20 (sx 3 (sv 2) z0 z0) (sx 14 (sx 1 (sv 4) (sv 1) z0) (sx 3 (sv 1) z0 z0) (sv 2)) (sv 2)) (sx 20 (sx 7 (sx 5 (sx 3 z0 z0 z0) (sv 14) z0) (sx 14 (sx 1 (sv 1) (sv 1) z0) (sx 3 (sv 2) z0 z0) z0) (so 6 (sx 7 (sx 5 (sx 3 z0 z0 z0) (sv 14) z0) (sx 14 (sx 1 (sv 125) (sv 1) z0) (sx 3 (sv 2) z0 z0) z0) z0))) z0 z0) (sx 4 (sv 2) (sv 1) z0)) [182, (m : Int), 0] (j_up h 191 0 (m : Int)) R := by
  refine w_lp (fun en h' => ∃ k : Nat, en = [182, (m : Int), (k : Int)] ∧ k ≤ 4 * m ∧ HT g_fk a_g3 h' ∧ (∀ o i : Nat, (o = 191 → 125 ≤ i) → h' o i = h o i) ∧ h' 191 0 = (m : Int) ∧ ∀ i : Nat, i < k → h' 191 (1 + i) = h 191 (125 + i)) (fun en _ => 4 * m - (en.getD 2 0).toNat) ⟨0, rfl, by omega, ht_up hp.1.1 (by decide) ⟨by omega, by omega⟩, fun o i e => up_ne (fun z => by have := e z.1; have := z.2; omega), up_eq, fun i hi_w => by omega⟩ ?_
  rintro en h1 ⟨k, rfl, k4, H1_w, f1_w, z1, d1_w⟩
  refine ⟨?_, ?_⟩
  · show 4 * m - ((k : Int)).toNat < K
    omega
  simp only [wf_4, wf_40, wf_5, wf_50, wf_6, wl_1, wt_1, wu_1, wa_1, wl_4, wt_4, wu_4, wa_4, wl_5, wt_5, wu_5, wa_5, wl_6, wt_6, wu_6, wa_6, wl_9, wt_9, wu_9, wa_9, wl_10, wt_10, wu_10, wa_10, wl_11, wt_11, wu_11, wa_11, wl_13, wt_13, wu_13, wa_13, wl_14, wt_14, wu_14, wa_14, wl_15, wt_15, wu_15, wa_15, wl_16, wt_16, wu_16, wa_16, wl_17, wt_17, wu_17, wa_17, wl_20, wt_20, wu_20, wa_20, wl_21, wt_21, wu_21, wa_21, wl_22, wt_22, wu_22, wa_22, wl_23, wt_23, wu_23, wa_23, wl_24, wt_24, wu_24, wa_24, wl_26, wt_26, wu_26, wa_26, wl_27, wt_27, wu_27, wa_27, wl_28, wt_28, wu_28, wa_28, we_1, we_3, we_10, we_14, we_15, we_16, we_17, we_18, we_20, we_21, we_22, we_24, we_25, we_26, we_27, we_28, we_30, we_31, we_32, wc_20, wc_21, wc_22, wc_24, wc_25, wc_26, wc_27, wc_3, wc_4, wc_7, wc_28, wc_32, ws_1, ws_2, ws_3, ws_4, ws_9, ws_10, ws_11, ws_14, ws_15, ws_16, ws_27, ws_17, ws_20, ws_28, kc_0, kc_1, kn_1, kc_2, kn_2, kc_3, kc_4, kc_5, kc_6, kc_7, kc_8, kc_9, kc_10, kc_12, kc_13, kc_14, kc_16, kc_17, kc_18, kc_19, kc_20, kc_21, kc_22, kc_24, kc_28, kc_30, kc_32, kc_37, kc_40, kc_41, kc_42, kc_43, kc_45, kc_48, kc_56, kc_57, kc_59, kc_60, kc_61, kc_64, kc_73, kc_78, kc_91, kc_95, kc_96, kc_97, kc_98, kc_99, kc_100, kc_112, kc_122, kc_125, kc_126, kc_150, kc_162, kc_163, kc_168, kc_186, kc_190, kc_200, kc_250, kc_255, kc_355, kc_356, kc_404, kc_405, kc_429, kc_573, kc_999, kc_1000, kc_1002, kc_1100, kc_1891, kc_2200, kc_4719, kc_4869, kc_4881, kc_5148, kc_9999, kn_9999, kc_10000, kc_12345, kc_19741, kc_25433, kc_65536, kc_320403, kc_628412, kc_629093, kc_660401, kc_679843, kc_918640, kc_979410, kc_1178088, kc_6232410, kc_24644941, kc_36238189, kc_38270444, kc_392531318, kc_425693491, kc_1103515245, kc_1342154595, kc_2147483648, kc_42328242873, kc_891704255789, kc_1722105685577, kc_1858726030364, ct_0, ct_1, ct_2, ct_3, ct_4, ct_5, cf_0, cf_1, cf_2, cf_3, cf_4, cf_5, w_ty6, w_ty7, m_sv, m_z0, m_hd, m_g0, m_gs, m_s0, m_ss, m_ap, m_an, forall_const, true_and, and_true, ne_eq, not_true_eq_false, not_false_eq_true, false_implies, true_implies, implies_true, eq_self, reduceCtorEq, Nat.reduceDiv, Nat.reduceMod, Int.reduceToNat, or_true, true_or, or_false, false_or, or_self, m_it, m_if, m_c1, m_01, m_02, m_03, m_04, m_10, m_12, m_13, m_14, m_20, m_21, m_23, m_24, m_30, m_31, m_32, m_34, m_40, m_41, m_42, m_43]
  rw [jmul (x := 4) (y := (m : Int)) (by omega) (by omega)]
  refine ⟨fun hk => ?_, fun hk => ?_⟩
  · rw [jadd (x := 125) (y := (k : Int)) (by omega) (by omega), jadd (x := 1) (y := (k : Int)) (by omega) (by omega), jinc (by omega) (by omega), show (125 + (k : Int)).toNat = 125 + k by omega, show (1 + (k : Int)).toNat = 1 + k by omega]
    refine ⟨⟨by omega, by omega⟩, ⟨by omega, by omega⟩, ⟨k + 1, rfl, by omega, ht_up H1_w (by decide) (ht_int H1_w (by decide) _), fun o i e => ?_, ?_, fun i hi_w => ?_⟩, ?_⟩
    · rw [up_ne (fun z => by have := e z.1; have := z.2; omega)]
      exact f1_w o i e
    · rw [up_ne (fun z => by have := z.2; omega)]
      exact z1
    · by_cases e : i = k
      · rw [e, up_eq]
        exact f1_w 191 _ (fun _ => by omega)
      · rw [up_ne (fun z => by have := z.2; omega)]
        exact d1_w i (by omega)
    · show 4 * m - ((k : Int) + 1).toNat < 4 * m - ((k : Int)).toNat
      omega
  · have ek : k = 4 * m := by omega
    subst ek
    have a188 : h1 188 = h 188 := funext fun i => f1_w 188 i (fun z => absurd z (by decide))
    have a189 : h1 189 = h 189 := funext fun i => f1_w 189 i (fun z => absurd z (by decide))
    refine hR _ _ ⟨H1_w, fun i => ?_, fun q hq => ?_, ?_⟩ ?_ (f1_w 182 12 (fun z => absurd z (by decide)))
    · rw [f1_w 182 i (fun z => absurd z (by decide))]
      exact hp.1.2.1 i
    · by_cases e : q = 191
      · subst e
        intro r hr i j k1_w k2 k3
        have hr2 : r ∈ [(0, 1, ((1, 0, 30) : IT)), (1, 250, (1, (-2147483648), 2147483647))] := hr
        have eb : (qA (r_T 0) 191).2.1 = 0 := rfl
        rw [eb, Nat.zero_mul, Nat.zero_add]
        rcases List.mem_cons.mp hr2 with rfl | hr3
        · have i0 : i = 0 := by
            have : i < 1 := k2
            omega
          rw [i0, z1]
          exact ⟨by omega, by omega, by omega, by omega⟩
        · rw [List.mem_singleton] at hr3
          subst hr3
          exact IV.top (ht_int H1_w (by decide) _)
      · have e2_w : h1 q = h q := funext fun i => f1_w q i (fun z => absurd z e)
        rw [e2_w]
        exact hp.1.2.2.1 q hq
    · refine ⟨by rw [a188]; exact hp.1.2.2.2.1, by rw [a188, a189]; exact hp.1.2.2.2.2.1, fun i hi_w => ?_⟩
      rw [z1] at hi_w
      have w := hw i (by omega)
      rw [d1_w (4 * i) (by omega), show 2 + 4 * i = 1 + (4 * i + 1) by omega, show 3 + 4 * i = 1 + (4 * i + 2) by omega, show 4 + 4 * i = 1 + (4 * i + 3) by omega, d1_w _ (by omega), d1_w _ (by omega), d1_w _ (by omega)]
      rw [show 125 + (4 * i + 1) = 126 + 4 * i by omega, show 125 + (4 * i + 2) = 127 + 4 * i by omega, show 125 + (4 * i + 3) = 128 + 4 * i by omega]
      exact w
    · unfold DG
      rw [a188]
      exact hp.2.2
theorem t_214 (hK_w : 4294967300 ≤ K) (c190 : G190 P g (evF xs L ck K cW g_M n)) (c191 : ∀ N, G191 P N g (evF xs L ck K cW g_M n)) (c194 : ∀ N, G194 P N g (evF xs L ck K cW g_M n)) (c201 : ∀ N, G201 P N g (evF xs L ck K cW g_M n)) (c215 : ∀ N, G215 P N g (evF xs L ck K cW g_M n)) (hQ : QK P (r_T 0) (RJ P) h) (hD : DG h) (h0 : 0 ≤ h 182 12) (h1 : h 182 12 ≤ 1001) : ∃ r h', evF xs L ck K cW g_M (n + 1) 214 [182] ((a_g3, g), h) = some (1, r, ((a_g3, g), h')) ∧ B214 P r h' := by
  refine tr_of gm_214 ?_
  show wS _ _ K bb_214 [182, 0, 0] h _
  generalize evF xs L ck K cW g_M n = F at c190 c191 c194 c201 c215 ⊢
  unfold bb_214
  simp only [wf_4, wf_40, wf_5, wf_50, wf_6, wl_1, wt_1, wu_1, wa_1, wl_4, wt_4, wu_4, wa_4, wl_5, wt_5, wu_5, wa_5, wl_6, wt_6, wu_6, wa_6, wl_9, wt_9, wu_9, wa_9, wl_10, wt_10, wu_10, wa_10, wl_11, wt_11, wu_11, wa_11, wl_13, wt_13, wu_13, wa_13, wl_14, wt_14, wu_14, wa_14, wl_15, wt_15, wu_15, wa_15, wl_16, wt_16, wu_16, wa_16, wl_17, wt_17, wu_17, wa_17, wl_20, wt_20, wu_20, wa_20, wl_21, wt_21, wu_21, wa_21, wl_22, wt_22, wu_22, wa_22, wl_23, wt_23, wu_23, wa_23, wl_24, wt_24, wu_24, wa_24, wl_26, wt_26, wu_26, wa_26, wl_27, wt_27, wu_27, wa_27, wl_28, wt_28, wu_28, wa_28, we_1, we_3, we_10, we_14, we_15, we_16, we_17, we_18, we_20, we_21, we_22, we_24, we_25, we_26, we_27, we_28, we_30, we_31, we_32, wc_20, wc_21, wc_22, wc_24, wc_25, wc_26, wc_27, wc_3, wc_4, wc_7, wc_28, wc_32, ws_1, ws_2, ws_3, ws_4, ws_9, ws_10, ws_11, ws_14, ws_15, ws_16, ws_27, ws_17, ws_20, ws_28, kc_0, kc_1, kn_1, kc_2, kn_2, kc_3, kc_4, kc_5, kc_6, kc_7, kc_8, kc_9, kc_10, kc_12, kc_13, kc_14, kc_16, kc_17, kc_18, kc_19, kc_20, kc_21, kc_22, kc_24, kc_28, kc_30, kc_32, kc_37, kc_40, kc_41, kc_42, kc_43, kc_45, kc_48, kc_56, kc_57, kc_59, kc_60, kc_61, kc_64, kc_73, kc_78, kc_91, kc_95, kc_96, kc_97, kc_98, kc_99, kc_100, kc_112, kc_122, kc_125, kc_126, kc_150, kc_162, kc_163, kc_168, kc_186, kc_190, kc_200, kc_250, kc_255, kc_355, kc_356, kc_404, kc_405, kc_429, kc_573, kc_999, kc_1000, kc_1002, kc_1100, kc_1891, kc_2200, kc_4719, kc_4869, kc_4881, kc_5148, kc_9999, kn_9999, kc_10000, kc_12345, kc_19741, kc_25433, kc_65536, kc_320403, kc_628412, kc_629093, kc_660401, kc_679843, kc_918640, kc_979410, kc_1178088, kc_6232410, kc_24644941, kc_36238189, kc_38270444, kc_392531318, kc_425693491, kc_1103515245, kc_1342154595, kc_2147483648, kc_42328242873, kc_891704255789, kc_1722105685577, kc_1858726030364, ct_0, ct_1, ct_2, ct_3, ct_4, ct_5, cf_0, cf_1, cf_2, cf_3, cf_4, cf_5, w_ty6, w_ty7, m_sv, m_z0, m_hd, m_g0, m_gs, m_s0, m_ss, m_ap, m_an, forall_const, true_and, and_true, ne_eq, not_true_eq_false, not_false_eq_true, false_implies, true_implies, implies_true, eq_self, reduceCtorEq, Nat.reduceDiv, Nat.reduceMod, Int.reduceToNat, or_true, true_or, or_false, false_or, or_self, m_it, m_if, m_c1, m_01, m_02, m_03, m_04, m_10, m_12, m_13, m_14, m_20, m_21, m_23, m_24, m_30, m_31, m_32, m_34, m_40, m_41, m_42, m_43]
  have q0 : QK P (r_T 0) (RJ P) (j_up h 182 0 0) := (fd_QK hQ rj_js (k := 0) (Or.inl rfl) ⟨by decide, by decide, in_0⟩).1
  have e12_w : j_up h 182 0 0 182 12 = h 182 12 := up_ne (fun z => absurd z.2 (by decide))
  have d0_w : DG (j_up h 182 0 0) := DG.up hQ hD (up_ne (fun z => absurd z.1 (by decide))) (up_ne (fun z => absurd z.1 (by decide))) (fun m _ => up_ne (fun z => absurd z.1 (by decide))) (fun m _ => up_ne (fun z => absurd z.1 (by decide)))
  obtain ⟨N, h2, x2_w, p2_w, at2_w, fr2⟩ := c190 _ q0 d0_w (by rw [e12_w]; exact h0) (by rw [e12_w]; exact h1)
  replace c191 := c191 N
  replace c194 := c194 N
  replace c201 := c201 N
  replace c215 := c215 N
  have i12 : h2 182 12 = h 182 12 := (fr2 182 12 (fun _ => by decide) (by decide)).trans e12_w
  refine ⟨[], h2, x2_w, ?_⟩
  refine w_lp (fun en h' => ∃ (m : Nat) (w : Int), en = [182, (m : Int), w] ∧ m ≤ 30 ∧ PK P N h' ∧ DW P m h' ∧ h' 182 12 = h 182 12) (fun _ h' => 2 * ((N : Int) - h' 182 7).toNat + (if h' 182 8 = 0 then 1 else 0)) ⟨0, 0, rfl, by decide, p2_w, fun _ i hi_w => by omega, i12⟩ ?_
  rintro en h3 ⟨m, w, rfl, m30, p3_w, w3_w, e3_w⟩
  have b1 := p3_w.2.1.1
  have b2 := p3_w.2.1.2.1
  have b3 := p3_w.2.1.2.2.1
  have b4 := p3_w.2.1.2.2.2.1
  refine ⟨?_, ?_⟩
  · show 2 * ((N : Int) - h3 182 7).toNat + (if h3 182 8 = 0 then 1 else 0) < K
    split <;> omega
  simp only [wf_4, wf_40, wf_5, wf_50, wf_6, wl_1, wt_1, wu_1, wa_1, wl_4, wt_4, wu_4, wa_4, wl_5, wt_5, wu_5, wa_5, wl_6, wt_6, wu_6, wa_6, wl_9, wt_9, wu_9, wa_9, wl_10, wt_10, wu_10, wa_10, wl_11, wt_11, wu_11, wa_11, wl_13, wt_13, wu_13, wa_13, wl_14, wt_14, wu_14, wa_14, wl_15, wt_15, wu_15, wa_15, wl_16, wt_16, wu_16, wa_16, wl_17, wt_17, wu_17, wa_17, wl_20, wt_20, wu_20, wa_20, wl_21, wt_21, wu_21, wa_21, wl_22, wt_22, wu_22, wa_22, wl_23, wt_23, wu_23, wa_23, wl_24, wt_24, wu_24, wa_24, wl_26, wt_26, wu_26, wa_26, wl_27, wt_27, wu_27, wa_27, wl_28, wt_28, wu_28, wa_28, we_1, we_3, we_10, we_14, we_15, we_16, we_17, we_18, we_20, we_21, we_22, we_24, we_25, we_26, we_27, we_28, we_30, we_31, we_32, wc_20, wc_21, wc_22, wc_24, wc_25, wc_26, wc_27, wc_3, wc_4, wc_7, wc_28, wc_32, ws_1, ws_2, ws_3, ws_4, ws_9, ws_10, ws_11, ws_14, ws_15, ws_16, ws_27, ws_17, ws_20, ws_28, kc_0, kc_1, kn_1, kc_2, kn_2, kc_3, kc_4, kc_5, kc_6, kc_7, kc_8, kc_9, kc_10, kc_12, kc_13, kc_14, kc_16, kc_17, kc_18, kc_19, kc_20, kc_21, kc_22, kc_24, kc_28, kc_30, kc_32, kc_37, kc_40, kc_41, kc_42, kc_43, kc_45, kc_48, kc_56, kc_57, kc_59, kc_60, kc_61, kc_64, kc_73, kc_78, kc_91, kc_95, kc_96, kc_97, kc_98, kc_99, kc_100, kc_112, kc_122, kc_125, kc_126, kc_150, kc_162, kc_163, kc_168, kc_186, kc_190, kc_200, kc_250, kc_255, kc_355, kc_356, kc_404, kc_405, kc_429, kc_573, kc_999, kc_1000, kc_1002, kc_1100, kc_1891, kc_2200, kc_4719, kc_4869, kc_4881, kc_5148, kc_9999, kn_9999, kc_10000, kc_12345, kc_19741, kc_25433, kc_65536, kc_320403, kc_628412, kc_629093, kc_660401, kc_679843, kc_918640, kc_979410, kc_1178088, kc_6232410, kc_24644941, kc_36238189, kc_38270444, kc_392531318, kc_425693491, kc_1103515245, kc_1342154595, kc_2147483648, kc_42328242873, kc_891704255789, kc_1722105685577, kc_1858726030364, ct_0, ct_1, ct_2, ct_3, ct_4, ct_5, cf_0, cf_1, cf_2, cf_3, cf_4, cf_5, w_ty6, w_ty7, m_sv, m_z0, m_hd, m_g0, m_gs, m_s0, m_ss, m_ap, m_an, forall_const, true_and, and_true, ne_eq, not_true_eq_false, not_false_eq_true, false_implies, true_implies, implies_true, eq_self, reduceCtorEq, Nat.reduceDiv, Nat.reduceMod, Int.reduceToNat, or_true, true_or, or_false, false_or, or_self, m_it, m_if, m_c1, m_01, m_02, m_03, m_04, m_10, m_12, m_13, m_14, m_20, m_21, m_23, m_24, m_30, m_31, m_32, m_34, m_40, m_41, m_42, m_43]
  have ba_w : 0 ≤ h3 182 7 ∧ h3 182 7 < 1002 := ⟨b2, by omega⟩
  have stop_w : h3 182 8 ≠ 0 → B214 P [h3 182 8] h3 := fun _ => ⟨_, rfl, ht_fld p3_w.1 rfl, p3_w.1, p3_w.2.2, by omega, by omega⟩
  have fin_w : h3 182 8 = 0 → ∀ (m2_w : Nat) (w : Int) (h4 : XH), m2_w ≤ 30 → PK P N h4 → DW P m2_w h4 → h4 182 12 = h 182 12 → h3 182 7 ≤ h4 182 7 → ∃ r h5, F 194 [182, 59] ((a_g3, g), h4) = some (1, r, (a_g3, g), h5) ∧ (∃ m_1 : Nat, ∃ w_1 : Int, [182, (m2_w : Int), w] = [182, (m_1 : Int), w_1] ∧ m_1 ≤ 30 ∧ PK P N h5 ∧ DW P m_1 h5 ∧ h5 182 12 = h 182 12) ∧ (2 * ((N : Int) - h5 182 7).toNat + if h5 182 8 = 0 then 1 else 0) < 2 * ((N : Int) - h3 182 7).toNat + if h3 182 8 = 0 then 1 else 0 := by
    intro z3 m2_w w h4 hm_w p4_w d4_w e4_w at4_w
    obtain ⟨h5, y1, y2, y3, y4⟩ := c194 h4 59 p4_w ⟨by decide, by decide⟩
    refine ⟨[], h5, y1, ⟨m2_w, w, rfl, hm_w, p4_w.pa y2, d4_w.pa y2, (y2.1 182 12 (fun _ => by decide)).trans e4_w⟩, ?_⟩
    rw [if_pos z3]
    by_cases t : tkS h4 59
    · have e5_w := y3 t
      have e7_w : h5 182 7 = h4 182 7 + 1 := by
        rw [e5_w]
        exact up_eq
      have n5_w := y2.2.2.2.2.2
      split <;> omega
    · obtain ⟨k1_w, k2, -⟩ := y4 t
      rw [if_neg k2]
      omega
  have done : h3 182 8 = 0 → wS (a_g3, g) F K (sx 12 (sx 20 (sx 3 (sv 2) z0 z0) (sx 14 (sx 1 (sv 4) (sv 1) z0) (sx 3 (sv 1) z0 z0) (sv 2)) (sv 2)) (sx 20 (sx 7 (sx 5 (sx 3 z0 z0 z0) (sv 14) z0) (sx 14 (sx 1 (sv 1) (sv 1) z0) (sx 3 (sv 2) z0 z0) z0) (so 6 (sx 7 (sx 5 (sx 3 z0 z0 z0) (sv 14) z0) (sx 14 (sx 1 (sv 125) (sv 1) z0) (sx 3 (sv 2) z0 z0) z0) z0))) z0 z0) (sx 4 (sv 2) (sv 1) z0)) [182, (m : Int), 0] (j_up h3 191 0 (m : Int)) fun k vs en1 h1 => (k = 0 → B214 P [0] h1) ∧ (¬k = 0 → k = 1 ∧ B214 P vs h1) := fun z3 => cp_214 hK_w p3_w m30 (w3_w z3) (by omega) (by omega) (fun en h' q d e => ⟨fun _ => ⟨0, rfl, in_0, q, d, by omega, by omega⟩, fun z => absurd rfl z⟩)
  refine ⟨fun z3 => ⟨ba_w, fun hs => ?_, fun hs => ⟨fun z => by omega, fun _ => ⟨⟨by decide, by decide⟩, done z3⟩⟩⟩, fun z3 => ⟨fun _ => stop_w z3, fun z => by omega⟩⟩
  obtain ⟨v, x1_w, v0_w, -, ok, -⟩ := c201 h3 9 4 p3_w (by decide) (by decide) (by decide)
  refine ⟨[v], h3, x1_w, fun hv => ?_, fun hv => ⟨fun hm_w => ?_, fun hm_w => ?_⟩⟩
  · obtain ⟨h4, y1, a4, -⟩ := c191 h3 1 p3_w (by decide) (by decide)
    exact ⟨[], h4, y1, fin_w z3 m _ h4 m30 (p3_w.pa a4) (w3_w.pa a4) ((a4.1 182 12 (fun _ => by decide)).trans e3_w) a4.2.2.2.2.1⟩
  · obtain ⟨h4, y1, a4, -⟩ := c191 h3 5 p3_w (by decide) (by decide)
    exact ⟨[], h4, y1, fin_w z3 m _ h4 m30 (p3_w.pa a4) (w3_w.pa a4) ((a4.1 182 12 (fun _ => by decide)).trans e3_w) a4.2.2.2.2.1⟩
  · have hv : 0 ≤ v := hv
    obtain ⟨v4_w, tk⟩ := ok hv
    have a4 := PA.next p3_w hs
    have p4_w : PK P N (atp h3) := p3_w.pa a4
    rw [jat p3_w, jmul (x := 4) (y := (m : Int)) (by omega) (by omega), jadd (x := 125) (y := 4 * (m : Int)) (by omega) (by omega), j32_in (v := (m : Int) + 1) ⟨by omega, by omega⟩, show 125 + 4 * (m : Int) = ((125 + 4 * m : Nat) : Int) by omega, show (m : Int) + 1 = ((m + 1 : Nat) : Int) by omega]
    obtain ⟨h5, y1, p5_w, l5, ln⟩ := c215 (atp h3) (125 + 4 * m) v p4_w (by omega) (by omega) hv (by omega)
    have z4 : atp h3 182 8 = 0 := atp_8.trans z3
    have at4_w : atp h3 182 7 = h3 182 7 + 1 := up_eq
    have at5_w := l5.2.2.2.2.1
    refine ⟨[], h5, y1, fin_w z3 (m + 1) _ h5 (by omega) p5_w (fun z i hi_w => ?_) ?_ (by omega)⟩
    · by_cases e : i = m
      · subst e
        have k := ln z
        rw [show 125 + 4 * i + 1 = 126 + 4 * i by omega, show 125 + 4 * i + 2 = 127 + 4 * i by omega, show 125 + 4 * i + 3 = 128 + 4 * i by omega] at k
        exact k
      · have c : ∀ j, j < 125 + 4 * m → h5 191 j = h3 191 j := fun j hj => (l5.1 191 j (fun z => absurd z (by decide)) (fun _ => Or.inl hj)).trans (up_ne (fun z => absurd z.1 (by decide)))
        rw [c _ (by omega), c _ (by omega), c _ (by omega), c _ (by omega)]
        exact w3_w z3 i (by omega)
    · rw [l5.1 182 12 (fun _ => by decide) (fun z => absurd z (by decide))]
      exact (up_ne (fun z => absurd z.2 (by decide))).trans e3_w
end PARH
end
section
/-! ===== the reference_w: begins ===== -/
def JT : XH → Prop := fun _ => True
theorem jt_js : JS (r_T 0) JT := fun _ _ _ _ => trivial
section PARI
variable {P : Int × Int} {N : Nat} {g : Nat × Nat} {xs : Nat → Int} {L K n : Nat} {ck : Nat → List Nat} {cW : Nat → Nat → Int} {h h' h1 h2 : XH} {F : XP}
theorem s_228 : ∀ h : XH, evF xs L ck K cW g_M (n + 1) 228 [182] ((a_g3, g), h) = some (1, [h 188 3], ((a_g3, g), h)) := fun h => by
  suffices hs : ∃ r h', evF xs L ck K cW g_M (n + 1) 228 [182] ((a_g3, g), h) = some (1, r, ((a_g3, g), h')) ∧ r = [h 188 3] ∧ h' = h by
    obtain ⟨r, h', e1_w, rfl, rfl⟩ := hs
    exact e1_w
  refine tr_of gm_228 (B := fun r h' => r = [h 188 3] ∧ h' = h) ?_
  show wS _ _ K bb_228 [182] h _
  generalize evF xs L ck K cW g_M n = F
  unfold bb_228
  simp only [wf_4, wf_40, wf_5, wf_50, wf_6, wl_1, wt_1, wu_1, wa_1, wl_4, wt_4, wu_4, wa_4, wl_5, wt_5, wu_5, wa_5, wl_6, wt_6, wu_6, wa_6, wl_9, wt_9, wu_9, wa_9, wl_10, wt_10, wu_10, wa_10, wl_11, wt_11, wu_11, wa_11, wl_13, wt_13, wu_13, wa_13, wl_14, wt_14, wu_14, wa_14, wl_15, wt_15, wu_15, wa_15, wl_16, wt_16, wu_16, wa_16, wl_17, wt_17, wu_17, wa_17, wl_20, wt_20, wu_20, wa_20, wl_21, wt_21, wu_21, wa_21, wl_22, wt_22, wu_22, wa_22, wl_23, wt_23, wu_23, wa_23, wl_24, wt_24, wu_24, wa_24, wl_26, wt_26, wu_26, wa_26, wl_27, wt_27, wu_27, wa_27, wl_28, wt_28, wu_28, wa_28, we_1, we_3, we_10, we_14, we_15, we_16, we_17, we_18, we_20, we_21, we_22, we_24, we_25, we_26, we_27, we_28, we_30, we_31, we_32, wc_20, wc_21, wc_22, wc_24, wc_25, wc_26, wc_27, wc_3, wc_4, wc_7, wc_28, wc_32, ws_1, ws_2, ws_3, ws_4, ws_9, ws_10, ws_11, ws_14, ws_15, ws_16, ws_27, ws_17, ws_20, ws_28, kc_0, kc_1, kn_1, kc_2, kn_2, kc_3, kc_4, kc_5, kc_6, kc_7, kc_8, kc_9, kc_10, kc_12, kc_13, kc_14, kc_16, kc_17, kc_18, kc_19, kc_20, kc_21, kc_22, kc_24, kc_28, kc_30, kc_32, kc_37, kc_40, kc_41, kc_42, kc_43, kc_45, kc_48, kc_56, kc_57, kc_59, kc_60, kc_61, kc_64, kc_73, kc_78, kc_91, kc_95, kc_96, kc_97, kc_98, kc_99, kc_100, kc_112, kc_122, kc_125, kc_126, kc_150, kc_162, kc_163, kc_168, kc_186, kc_190, kc_200, kc_250, kc_255, kc_355, kc_356, kc_404, kc_405, kc_429, kc_573, kc_999, kc_1000, kc_1002, kc_1100, kc_1891, kc_2200, kc_4719, kc_4869, kc_4881, kc_5148, kc_9999, kn_9999, kc_10000, kc_12345, kc_19741, kc_25433, kc_65536, kc_320403, kc_628412, kc_629093, kc_660401, kc_679843, kc_918640, kc_979410, kc_1178088, kc_6232410, kc_24644941, kc_36238189, kc_38270444, kc_392531318, kc_425693491, kc_1103515245, kc_1342154595, kc_2147483648, kc_42328242873, kc_891704255789, kc_1722105685577, kc_1858726030364, ct_0, ct_1, ct_2, ct_3, ct_4, ct_5, cf_0, cf_1, cf_2, cf_3, cf_4, cf_5, w_ty6, w_ty7, m_sv, m_z0, m_hd, m_g0, m_gs, m_s0, m_ss, m_ap, m_an, forall_const, true_and, and_true, ne_eq, not_true_eq_false, not_false_eq_true, false_implies, true_implies, implies_true, eq_self, reduceCtorEq, Nat.reduceDiv, Nat.reduceMod, Int.reduceToNat, or_true, true_or, or_false, false_or, or_self, m_it, m_if, m_c1, m_01, m_02, m_03, m_04, m_10, m_12, m_13, m_14, m_20, m_21, m_23, m_24, m_30, m_31, m_32, m_34, m_40, m_41, m_42, m_43]
  exact ⟨by decide, by decide⟩
theorem t_225 : TotR P (r_T 0) JT g (evF xs L ck K cW g_M (n + 1)) 225 := fun av h hQ hv => by
  obtain ⟨x, rfl, hx⟩ : ∃ x, av = [x] ∧ IV P (4, 182, 182) x := by
    match av, hv with
    | [x], hv => exact ⟨x, rfl, hv.1⟩
  obtain rfl : x = 182 := hx
  have s := q_slots hQ
  exact ⟨_, h, s_225 h, hQ, fun _ _ _ => rfl, ⟨⟨s.1, s.2, by omega, by omega⟩, trivial⟩, fun _ => hv⟩
theorem t_228 : TotR P (r_T 0) JT g (evF xs L ck K cW g_M (n + 1)) 228 := fun av h hQ hv => by
  obtain ⟨x, rfl, hx⟩ : ∃ x, av = [x] ∧ IV P (4, 182, 182) x := by
    match av, hv with
    | [x], hv => exact ⟨x, rfl, hv.1⟩
  obtain rfl : x = 182 := hx
  have s := q_nM hQ
  exact ⟨_, h, s_228 h, hQ, fun _ _ _ => rfl, ⟨⟨s.1, by omega, by omega⟩, trivial⟩, fun _ => hv⟩
theorem aw_QK (hQ : QK P (r_T 0) JT h) {q i : Nat} {v : Int} (hH : HT g_fk a_g3 (j_up h q i v)) (hq : q ≠ 182) (hb_w : (r_A q).2.1 = 0) (hv : ∀ r ∈ (r_A q).2.2, r.1 ≤ i → i < r.2.1 → IV P r.2.2 v) : QK P (r_T 0) JT (j_up h q i v) := by
  refine ⟨hH, fun k => ?_, fun q' hq' => ?_, trivial⟩
  · rw [up_ne (fun z => hq z.1.symm)]
    exact hQ.2.1 k
  · by_cases e : q' = q
    · subst e
      intro r hr a b k1_w k2 k3
      have eb : (qA (r_T 0) q').2.1 = 0 := hb_w
      have old_w := hQ.2.2.1 q' hq' r hr a b k1_w k2 k3
      rw [eb, Nat.zero_mul, Nat.zero_add] at old_w ⊢
      by_cases e2_w : a = i
      · subst e2_w
        rw [up_eq]
        exact hv r hr k1_w k2
      · rw [up_ne (fun z => e2_w z.2)]
        exact old_w
    · have e2_w : j_up h q i v q' = h q' := funext fun i => up_ne (fun z => e z.1)
      rw [e2_w]
      exact hQ.2.2.1 q' hq'
def B241 (P : Int × Int) (h : XH) (r : List Int) (h' : XH) : Prop := r = [] ∧ QK P (r_T 0) (RJ P) h' ∧ h' 188 = h 188 ∧ h' 182 12 = h 182 12
theorem t_241 (hK_w : 4294967300 ≤ K) (hQ : QK P (r_T 0) JT h) (hG : GridOK (h 188) 0 P.1 P.2) (hL : 0 ≤ h 188 4 → CodeOK (h 189) (h 188 4).toNat) : ∃ r h', evF xs L ck K cW g_M (n + 3) 241 [182] ((a_g3, g), h) = some (1, r, ((a_g3, g), h')) ∧ B241 P h r h' := by
  have c240 : TotR P (r_T 0) JT g (evF xs L ck K cW g_M (n + 1 + 1)) 240 := t_240 (n := n + 1) jt_js hK_w t_228 t_225
  obtain ⟨h2, x2_w, q2_w, k2⟩ := use0 c240 rp_240 rr_240 hQ (av := [182, 0]) ⟨rfl, ⟨in_0, 0, by decide, by decide, by decide⟩, trivial⟩
  have fr := (fr_all (n + 2) 240 [182, 0] (a_g3, g) h 1 [] (a_g3, g) h2 (by decide +kernel) rfl (Or.inr rfl) x2_w).2
  have e12_w : h2 182 12 = h 182 12 := fr 182 12 (fun _ => by decide +kernel) (by decide +kernel)
  have e188 : h2 188 = h 188 := funext fun i => k2 188 i rfl
  have e189 : h2 189 = h 189 := funext fun i => k2 189 i rfl
  refine tr_of (n := n + 2) gm_241 ?_
  show wS _ _ K bb_241 [182] h _
  generalize evF xs L ck K cW g_M (n + 2) = F at x2_w ⊢
  unfold bb_241
  simp only [wf_4, wf_40, wf_5, wf_50, wf_6, wl_1, wt_1, wu_1, wa_1, wl_4, wt_4, wu_4, wa_4, wl_5, wt_5, wu_5, wa_5, wl_6, wt_6, wu_6, wa_6, wl_9, wt_9, wu_9, wa_9, wl_10, wt_10, wu_10, wa_10, wl_11, wt_11, wu_11, wa_11, wl_13, wt_13, wu_13, wa_13, wl_14, wt_14, wu_14, wa_14, wl_15, wt_15, wu_15, wa_15, wl_16, wt_16, wu_16, wa_16, wl_17, wt_17, wu_17, wa_17, wl_20, wt_20, wu_20, wa_20, wl_21, wt_21, wu_21, wa_21, wl_22, wt_22, wu_22, wa_22, wl_23, wt_23, wu_23, wa_23, wl_24, wt_24, wu_24, wa_24, wl_26, wt_26, wu_26, wa_26, wl_27, wt_27, wu_27, wa_27, wl_28, wt_28, wu_28, wa_28, we_1, we_3, we_10, we_14, we_15, we_16, we_17, we_18, we_20, we_21, we_22, we_24, we_25, we_26, we_27, we_28, we_30, we_31, we_32, wc_20, wc_21, wc_22, wc_24, wc_25, wc_26, wc_27, wc_3, wc_4, wc_7, wc_28, wc_32, ws_1, ws_2, ws_3, ws_4, ws_9, ws_10, ws_11, ws_14, ws_15, ws_16, ws_27, ws_17, ws_20, ws_28, kc_0, kc_1, kn_1, kc_2, kn_2, kc_3, kc_4, kc_5, kc_6, kc_7, kc_8, kc_9, kc_10, kc_12, kc_13, kc_14, kc_16, kc_17, kc_18, kc_19, kc_20, kc_21, kc_22, kc_24, kc_28, kc_30, kc_32, kc_37, kc_40, kc_41, kc_42, kc_43, kc_45, kc_48, kc_56, kc_57, kc_59, kc_60, kc_61, kc_64, kc_73, kc_78, kc_91, kc_95, kc_96, kc_97, kc_98, kc_99, kc_100, kc_112, kc_122, kc_125, kc_126, kc_150, kc_162, kc_163, kc_168, kc_186, kc_190, kc_200, kc_250, kc_255, kc_355, kc_356, kc_404, kc_405, kc_429, kc_573, kc_999, kc_1000, kc_1002, kc_1100, kc_1891, kc_2200, kc_4719, kc_4869, kc_4881, kc_5148, kc_9999, kn_9999, kc_10000, kc_12345, kc_19741, kc_25433, kc_65536, kc_320403, kc_628412, kc_629093, kc_660401, kc_679843, kc_918640, kc_979410, kc_1178088, kc_6232410, kc_24644941, kc_36238189, kc_38270444, kc_392531318, kc_425693491, kc_1103515245, kc_1342154595, kc_2147483648, kc_42328242873, kc_891704255789, kc_1722105685577, kc_1858726030364, ct_0, ct_1, ct_2, ct_3, ct_4, ct_5, cf_0, cf_1, cf_2, cf_3, cf_4, cf_5, w_ty6, w_ty7, m_sv, m_z0, m_hd, m_g0, m_gs, m_s0, m_ss, m_ap, m_an, forall_const, true_and, and_true, ne_eq, not_true_eq_false, not_false_eq_true, false_implies, true_implies, implies_true, eq_self, reduceCtorEq, Nat.reduceDiv, Nat.reduceMod, Int.reduceToNat, or_true, true_or, or_false, false_or, or_self, m_it, m_if, m_c1, m_01, m_02, m_03, m_04, m_10, m_12, m_13, m_14, m_20, m_21, m_23, m_24, m_30, m_31, m_32, m_34, m_40, m_41, m_42, m_43]
  refine ⟨[], h2, x2_w, ⟨by decide, by decide⟩, ⟨by decide, by decide⟩, ⟨by decide, by decide⟩, ⟨by decide, by decide⟩, ?_⟩
  have w9 : w_ty 9 0 = 0 := by decide +kernel
  rw [w9]
  have q3_w : QK P (r_T 0) JT (j_up h2 194 404 0) := (st_QK (j := 0) (i := 404) (v := 0) q2_w jt_js (by decide) (by decide) (st_fit_ok (lo_w := 404) (hi_w := 405) (t := (1, 0, 0)) (by decide +kernel) (by decide) (by decide) ⟨by decide, by decide, in_0⟩) in_0).1
  have q4_w := aw_QK q3_w (q := 191) (i := 0) (v := 0) (ht_up q3_w.1 (by decide) in_0) (by decide) rfl (fun r hr a1_w a2 => IV.sub (List.all_eq_true.mp (show (r_A 191).2.2.all (fun r => i_sub (1, 0, 0) r.2.2) = true by decide +kernel) r hr) ⟨by decide, by decide, in_0⟩)
  have q5_w := (fd_QK q4_w jt_js (k := 18) (v := 0) (Or.inl rfl) ⟨by decide, by decide, in_0⟩).1
  have q6_w := (fd_QK q5_w jt_js (k := 19) (v := 0) (Or.inl rfl) (IV.top in_0)).1
  have in0L : InL 0 := ⟨by decide, by decide⟩
  have f195 : (r_A 195).2.2.all (fun r => i_sub (1, 0, 0) r.2.2) = true := by decide +kernel
  have q7_w := aw_QK q6_w (q := 195) (i := 0) (v := 0) (q6_w.1.up (fun _ => in_0) (fun _ => in0L) (fun _ => Or.inl rfl)) (by decide) rfl (fun r hr _ _ => IV.sub (List.all_eq_true.mp f195 r hr) ⟨by decide, by decide, in_0⟩)
  have q8_w := aw_QK q7_w (q := 195) (i := 1) (v := 0) (q7_w.1.up (fun _ => in_0) (fun _ => in0L) (fun _ => Or.inl rfl)) (by decide) rfl (fun r hr _ _ => IV.sub (List.all_eq_true.mp f195 r hr) ⟨by decide, by decide, in_0⟩)
  have o : ∀ q i : Nat, q ≠ 194 → q ≠ 191 → q ≠ 195 → (q = 182 → i ≠ 18 ∧ i ≠ 19) → j_up (j_up (j_up (j_up (j_up (j_up h2 194 404 0) 191 0 0) 182 18 0) 182 19 0) 195 0 0) 195 1 0 q i = h2 q i := fun q i z1 z2 z3 z4 => by
    rw [up_ne (fun z => z3 z.1), up_ne (fun z => z3 z.1), up_ne (fun z => (z4 z.1).2 z.2), up_ne (fun z => (z4 z.1).1 z.2), up_ne (fun z => z2 z.1), up_ne (fun z => z1 z.1)]
  have o188 : j_up (j_up (j_up (j_up (j_up (j_up h2 194 404 0) 191 0 0) 182 18 0) 182 19 0) 195 0 0) 195 1 0 188 = h 188 := funext fun i => (o 188 i (by decide) (by decide) (by decide) (fun z => absurd z (by decide))).trans (congrFun e188 i)
  have o189 : j_up (j_up (j_up (j_up (j_up (j_up h2 194 404 0) 191 0 0) 182 18 0) 182 19 0) 195 0 0) 195 1 0 189 = h 189 := funext fun i => (o 189 i (by decide) (by decide) (by decide) (fun z => absurd z (by decide))).trans (congrFun e189 i)
  have o191 : j_up (j_up (j_up (j_up (j_up (j_up h2 194 404 0) 191 0 0) 182 18 0) 182 19 0) 195 0 0) 195 1 0 191 0 = 0 := by
    rw [up_ne (fun z => absurd z.1 (by decide)), up_ne (fun z => absurd z.1 (by decide)), up_ne (fun z => absurd z.1 (by decide)), up_ne (fun z => absurd z.1 (by decide)), up_eq]
  refine ⟨rfl, ⟨q8_w.1, q8_w.2.1, q8_w.2.2.1, ?_, ?_, fun i hi_w => ?_⟩, o188, (o 182 12 (by decide) (by decide) (by decide) (fun _ => by decide)).trans e12_w⟩
  · rw [o188]
    exact hG
  · rw [o188, o189]
    exact hL
  · rw [o191] at hi_w
    omega
end PARI
end
section
/-! ===== the reference's parser: a draft comes into_w force ===== -/
theorem rows_188 : (r_A 188).2.2.all (fun r => (Nat.ble 95 r.1 && Nat.beq r.2.2.1 1) || (Nat.ble r.2.1 95 && (decide (r = (3, 4, (7, 0, 0))) || decide (r = (1, 2, (8, 0, 0))) || (Nat.beq r.2.2.1 1 && (r_A 188).2.2.any (fun s => decide (s = (r.1 + 95, r.2.1 + 95, r.2.2))))))) = true := by decide +kernel
theorem rows_lo : (List.range 20).all (fun k => Nat.beq k 5 || (r_A (183 + k)).2.2.all (fun r => Nat.ble r.2.2.1 4)) = true := by decide +kernel
section PARJ
variable {P P'_w : Int × Int} {N : Nat} {g : Nat × Nat} {h h' h1 h2 : XH}
theorem iv_any {t : IT} {v : Int} (ht : t.1 ≤ 4) (hv : IV P t v) : IV P'_w t v := by
  obtain ⟨k, l, u⟩ := t
  have hk : k ≤ 4 := ht
  match k, hk with
  | 0, _ => exact trivial
  | 1, _ => exact hv
  | 2, _ => exact hv
  | 3, _ => exact hv
  | 4, _ => exact hv
theorem rows_any {q : Nat} (hq : 183 ≤ q) (h8 : q ≠ 188) : ∀ r ∈ (r_A q).2.2, r.2.2.1 ≤ 4 := by
  intro r hr
  by_cases hi_w : q < 203
  · have k := List.all_eq_true.mp rows_lo (q - 183) (List.mem_range.mpr (by omega))
    rw [show 183 + (q - 183) = q by omega, Bool.or_eq_true] at k
    rcases k with k | k
    · have := Nat.eq_of_beq_eq_true k
      omega
    · exact Nat.le_of_ble_eq_true (List.all_eq_true.mp k r hr)
  · have e : r_A q = (0, 0, []) := by
      unfold r_A
      rw [show Nat.ble 183 q = true from Nat.ble_eq.mpr hq]
      rw [cond_true]
      rw [List.getD_eq_getElem?_getD, List.getElem?_eq_none (by have : r_As.length = 20 := rfl; omega)]
      rfl
    rw [e] at hr
    cases hr
/-- what the draft says_w is_w in force -/
theorem new_QK (hQ : QK P (r_T 0) (RJ P) h) (hP : P'_w = (h 188 98, h 188 96)) (hH : HT g_fk a_g3 h') (hF : ∀ k, h' 182 k = h 182 k) (h0 : ∀ i, i < 95 → h' 188 i = h 188 (95 + i)) (hi_w : ∀ i, 95 ≤ i → h' 188 i = h 188 i) (ho : ∀ q i : Nat, 183 ≤ q → q ≠ 188 → q ≠ 189 → q ≠ 190 → h' q i = h q i) : QK P'_w (r_T 0) JT h' := by
  have r6 := r_98 hQ
  have r4 := r_96 hQ
  refine ⟨hH, fun k => ?_, fun q hq => ?_, trivial⟩
  · rw [hF]
    have old_w := hQ.2.1 k
    have lo_w : ∀ k, (r_F k).1 ≤ 4 := fun k => by
      by_cases z : k < 30
      · exact Nat.le_of_ble_eq_true (List.all_eq_true.mp (show (List.range 30).all (fun k => Nat.ble (r_F k).1 4) = true by decide +kernel) k (List.mem_range.mpr z))
      · have e : r_F k = (0, 0, 0) := by
          unfold r_F
          rw [List.getD_eq_getElem?_getD, List.getElem?_eq_none (by show 30 ≤ k; omega)]
          rfl
        rw [e]
        decide
    exact iv_any (lo_w k) old_w
  · intro r hr i j k1_w k2 k3
    have old_w := hQ.2.2.1 q hq r hr i j k1_w k2 k3
    by_cases e8 : q = 188
    · subst e8
      have eb : (qA (r_T 0) 188).2.1 = 0 := rfl
      rw [eb, Nat.zero_mul, Nat.zero_add] at old_w ⊢
      have c := List.all_eq_true.mp rows_188 r hr
      simp only [Bool.or_eq_true, Bool.and_eq_true, Nat.ble_eq, decide_eq_true_eq] at c
      rcases c with ⟨c1_w, c2⟩ | ⟨c1_w, (c2 | c2) | ⟨c2, c3⟩⟩
      · have c2 := Nat.eq_of_beq_eq_true c2
        rw [hi_w i (by omega)]
        exact iv_any (by omega) old_w
      · subst c2
        have : i = 3 := by
          have k1_w : 3 ≤ i := k1_w
          have k2 : i < 4 := k2
          omega
        subst this
        rw [h0 3 (by decide), hP]
        exact ⟨rfl, r6.1, r6.2⟩
      · subst c2
        have : i = 1 := by
          have k1_w : 1 ≤ i := k1_w
          have k2 : i < 2 := k2
          omega
        subst this
        rw [h0 1 (by decide), hP]
        exact ⟨rfl, r4.1, r4.2⟩
      · have c2 := Nat.eq_of_beq_eq_true c2
        rw [List.any_eq_true] at c3
        obtain ⟨s, s1_w, s2_w⟩ := c3
        have s2_w := of_decide_eq_true s2_w
        subst s2_w
        have k := hQ.2.2.1 188 hq _ s1_w (95 + i) 0 (by show r.1 + 95 ≤ 95 + i; omega) (by show 95 + i < r.2.1 + 95; omega) (by decide)
        rw [eb, Nat.zero_mul, Nat.zero_add] at k
        rw [h0 i (by omega)]
        exact iv_any (by omega) k
    · by_cases e9_w : q = 189
      · subst e9_w
        have hr2 : r ∈ [(0, 2200, ((1, (-2147483648), 2147483647) : IT))] := hr
        rw [List.mem_singleton] at hr2
        subst hr2
        exact IV.top (ht_int hH (by decide) _)
      · by_cases e10_w : q = 190
        · subst e10_w
          have hr2 : r ∈ [(0, 28, ((2, (-9223372036854775808), 9223372036854775807) : IT))] := hr
          rw [List.mem_singleton] at hr2
          subst hr2
          exact IV.topL (ht_long hH (by decide) _)
        · rw [ho q _ hq e8 e9_w e10_w]
          exact iv_any (rows_any hq e8 r hr) old_w
end PARJ
end
section
/-! ===== the reference's parser: a grid ===== -/
def B206 (r : List Int) (h' : XH) : Prop := ∃ v, r = [v] ∧ InI v ∧ LQ h'
section PARK
variable {P : Int × Int} {N : Nat} {g : Nat × Nat} {xs : Nat → Int} {L K n : Nat} {ck : Nat → List Nat} {cW : Nat → Nat → Int} {h h' h1 h2 : XH} {F : XP}
theorem t_206 (hK_w : 4294967300 ≤ K) (c190 : G190 P g (evF xs L ck K cW g_M n)) (c194 : ∀ N, G194 P N g (evF xs L ck K cW g_M n)) (c199 : G199 P g (evF xs L ck K cW g_M n)) (c210 : ∀ N, G210 P N g (evF xs L ck K cW g_M n)) (c241 : ∀ (P'_w : Int × Int) (h : XH), QK P'_w (r_T 0) JT h → GridOK (h 188) 0 P'_w.1 P'_w.2 → (0 ≤ h 188 4 → CodeOK (h 189) (h 188 4).toNat) → ∃ r h', evF xs L ck K cW g_M n 241 [182] ((a_g3, g), h) = some (1, r, ((a_g3, g), h')) ∧ B241 P'_w h r h') (hQ : QK P (r_T 0) (RJ P) h) (hD : DG h) (h0 : 0 ≤ h 182 12) (h1 : h 182 12 ≤ 1001) : ∃ r h', evF xs L ck K cW g_M (n + 1) 206 [182] ((a_g3, g), h) = some (1, r, ((a_g3, g), h')) ∧ B206 r h' := by
  refine tr_of gm_206 ?_
  show wS _ _ K bb_206 [182, 0] h _
  generalize evF xs L ck K cW g_M n = F at c190 c194 c199 c210 c241 ⊢
  unfold bb_206
  simp only [wf_4, wf_40, wf_5, wf_50, wf_6, wl_1, wt_1, wu_1, wa_1, wl_4, wt_4, wu_4, wa_4, wl_5, wt_5, wu_5, wa_5, wl_6, wt_6, wu_6, wa_6, wl_9, wt_9, wu_9, wa_9, wl_10, wt_10, wu_10, wa_10, wl_11, wt_11, wu_11, wa_11, wl_13, wt_13, wu_13, wa_13, wl_14, wt_14, wu_14, wa_14, wl_15, wt_15, wu_15, wa_15, wl_16, wt_16, wu_16, wa_16, wl_17, wt_17, wu_17, wa_17, wl_20, wt_20, wu_20, wa_20, wl_21, wt_21, wu_21, wa_21, wl_22, wt_22, wu_22, wa_22, wl_23, wt_23, wu_23, wa_23, wl_24, wt_24, wu_24, wa_24, wl_26, wt_26, wu_26, wa_26, wl_27, wt_27, wu_27, wa_27, wl_28, wt_28, wu_28, wa_28, we_1, we_3, we_10, we_14, we_15, we_16, we_17, we_18, we_20, we_21, we_22, we_24, we_25, we_26, we_27, we_28, we_30, we_31, we_32, wc_20, wc_21, wc_22, wc_24, wc_25, wc_26, wc_27, wc_3, wc_4, wc_7, wc_28, wc_32, ws_1, ws_2, ws_3, ws_4, ws_9, ws_10, ws_11, ws_14, ws_15, ws_16, ws_27, ws_17, ws_20, ws_28, kc_0, kc_1, kn_1, kc_2, kn_2, kc_3, kc_4, kc_5, kc_6, kc_7, kc_8, kc_9, kc_10, kc_12, kc_13, kc_14, kc_16, kc_17, kc_18, kc_19, kc_20, kc_21, kc_22, kc_24, kc_28, kc_30, kc_32, kc_37, kc_40, kc_41, kc_42, kc_43, kc_45, kc_48, kc_56, kc_57, kc_59, kc_60, kc_61, kc_64, kc_73, kc_78, kc_91, kc_95, kc_96, kc_97, kc_98, kc_99, kc_100, kc_112, kc_122, kc_125, kc_126, kc_150, kc_162, kc_163, kc_168, kc_186, kc_190, kc_200, kc_250, kc_255, kc_355, kc_356, kc_404, kc_405, kc_429, kc_573, kc_999, kc_1000, kc_1002, kc_1100, kc_1891, kc_2200, kc_4719, kc_4869, kc_4881, kc_5148, kc_9999, kn_9999, kc_10000, kc_12345, kc_19741, kc_25433, kc_65536, kc_320403, kc_628412, kc_629093, kc_660401, kc_679843, kc_918640, kc_979410, kc_1178088, kc_6232410, kc_24644941, kc_36238189, kc_38270444, kc_392531318, kc_425693491, kc_1103515245, kc_1342154595, kc_2147483648, kc_42328242873, kc_891704255789, kc_1722105685577, kc_1858726030364, ct_0, ct_1, ct_2, ct_3, ct_4, ct_5, cf_0, cf_1, cf_2, cf_3, cf_4, cf_5, w_ty6, w_ty7, m_sv, m_z0, m_hd, m_g0, m_gs, m_s0, m_ss, m_ap, m_an, forall_const, true_and, and_true, ne_eq, not_true_eq_false, not_false_eq_true, false_implies, true_implies, implies_true, eq_self, reduceCtorEq, Nat.reduceDiv, Nat.reduceMod, Int.reduceToNat, or_true, true_or, or_false, false_or, or_self, m_it, m_if, m_c1, m_01, m_02, m_03, m_04, m_10, m_12, m_13, m_14, m_20, m_21, m_23, m_24, m_30, m_31, m_32, m_34, m_40, m_41, m_42, m_43]
  have q0 : QK P (r_T 0) (RJ P) (j_up h 182 0 0) := (fd_QK hQ rj_js (k := 0) (Or.inl rfl) ⟨by decide, by decide, in_0⟩).1
  have e12_w : j_up h 182 0 0 182 12 = h 182 12 := up_ne (fun z => absurd z.2 (by decide))
  have d0_w : DG (j_up h 182 0 0) := DG.up hQ hD (up_ne (fun z => absurd z.1 (by decide))) (up_ne (fun z => absurd z.1 (by decide))) (fun m _ => up_ne (fun z => absurd z.1 (by decide))) (fun m _ => up_ne (fun z => absurd z.1 (by decide)))
  obtain ⟨N, h2, x2_w, p2_w, at2_w, fr2⟩ := c190 _ q0 d0_w (by rw [e12_w]; exact h0) (by rw [e12_w]; exact h1)
  replace c194 := c194 N
  replace c210 := c210 N
  have q2_w : QK P (r_T 0) (RJ P) (j_up h2 182 12 0) := (fd_QK p2_w.1 rj_js (k := 12) (Or.inl rfl) (IV.top in_0)).1
  obtain ⟨h3, x3, q3_w, f3_w, z3, n3_w⟩ := c199 _ q2_w
  obtain ⟨p2q, ⟨t1_w, t2_w, t3_w, t4_w, t5_w, t6, t7, t8⟩, p2d⟩ := p2_w
  have o3_w : ∀ o k : Nat, (o = 182 → k ≠ 12) → (o ≠ 188) → h3 o k = h2 o k := fun o k z1 z2 => (f3_w o k (fun z => absurd z z2)).trans (up_ne (fun z => z1 z.1 z.2))
  have c3 : h3 182 12 = 0 := (f3_w 182 12 (fun z => absurd z (by decide))).trans up_eq
  have a3 : h3 182 7 = 0 := (o3_w 182 7 (fun _ => by decide) (by decide)).trans at2_w
  have dr3 : DR P N h3 := by
    refine ⟨⟨q3_w, ⟨?_, ?_, ?_, t4_w, ?_, ?_, ?_, fun i hi_w hs => ?_⟩, fun m hm_w => ?_, fun c hc_w => ?_⟩, ?_, Or.inl n3_w⟩
    · rw [o3_w 182 8 (fun _ => by decide) (by decide)]
      exact t1_w
    · omega
    · omega
    · rw [o3_w 184 N (fun z => absurd z (by decide)) (by decide)]
      exact t5_w
    · omega
    · omega
    · rw [o3_w 184 i (fun z => absurd z (by decide)) (by decide)] at hs
      rw [o3_w 186 i (fun z => absurd z (by decide)) (by decide)]
      exact t8 i hi_w hs
    · rw [z3 98 (by decide) (by decide) (by decide)] at hm_w
      omega
    · rw [z3 96 (by decide) (by decide) (by decide)] at hc_w
      omega
    · omega
  refine ⟨[], h2, x2_w, [], h3, x3, ?_⟩
  refine w_lp (fun en h' => en = [182, 0] ∧ DR P N h') (fun _ h' => 2 * ((N : Int) - h' 182 7).toNat + (if h' 182 8 = 0 then 1 else 0)) ⟨rfl, dr3⟩ ?_
  rintro en h4 ⟨rfl, r4⟩
  obtain ⟨p4_w, c4, l4⟩ := id r4
  obtain ⟨p4q, ⟨s1_w, s2_w, s3_w, s4_w, s5, s6_w, s7, s8⟩, p4d⟩ := id p4_w
  refine ⟨?_, ?_⟩
  · show 2 * ((N : Int) - h4 182 7).toNat + (if h4 182 8 = 0 then 1 else 0) < K
    split <;> omega
  simp only [wf_4, wf_40, wf_5, wf_50, wf_6, wl_1, wt_1, wu_1, wa_1, wl_4, wt_4, wu_4, wa_4, wl_5, wt_5, wu_5, wa_5, wl_6, wt_6, wu_6, wa_6, wl_9, wt_9, wu_9, wa_9, wl_10, wt_10, wu_10, wa_10, wl_11, wt_11, wu_11, wa_11, wl_13, wt_13, wu_13, wa_13, wl_14, wt_14, wu_14, wa_14, wl_15, wt_15, wu_15, wa_15, wl_16, wt_16, wu_16, wa_16, wl_17, wt_17, wu_17, wa_17, wl_20, wt_20, wu_20, wa_20, wl_21, wt_21, wu_21, wa_21, wl_22, wt_22, wu_22, wa_22, wl_23, wt_23, wu_23, wa_23, wl_24, wt_24, wu_24, wa_24, wl_26, wt_26, wu_26, wa_26, wl_27, wt_27, wu_27, wa_27, wl_28, wt_28, wu_28, wa_28, we_1, we_3, we_10, we_14, we_15, we_16, we_17, we_18, we_20, we_21, we_22, we_24, we_25, we_26, we_27, we_28, we_30, we_31, we_32, wc_20, wc_21, wc_22, wc_24, wc_25, wc_26, wc_27, wc_3, wc_4, wc_7, wc_28, wc_32, ws_1, ws_2, ws_3, ws_4, ws_9, ws_10, ws_11, ws_14, ws_15, ws_16, ws_27, ws_17, ws_20, ws_28, kc_0, kc_1, kn_1, kc_2, kn_2, kc_3, kc_4, kc_5, kc_6, kc_7, kc_8, kc_9, kc_10, kc_12, kc_13, kc_14, kc_16, kc_17, kc_18, kc_19, kc_20, kc_21, kc_22, kc_24, kc_28, kc_30, kc_32, kc_37, kc_40, kc_41, kc_42, kc_43, kc_45, kc_48, kc_56, kc_57, kc_59, kc_60, kc_61, kc_64, kc_73, kc_78, kc_91, kc_95, kc_96, kc_97, kc_98, kc_99, kc_100, kc_112, kc_122, kc_125, kc_126, kc_150, kc_162, kc_163, kc_168, kc_186, kc_190, kc_200, kc_250, kc_255, kc_355, kc_356, kc_404, kc_405, kc_429, kc_573, kc_999, kc_1000, kc_1002, kc_1100, kc_1891, kc_2200, kc_4719, kc_4869, kc_4881, kc_5148, kc_9999, kn_9999, kc_10000, kc_12345, kc_19741, kc_25433, kc_65536, kc_320403, kc_628412, kc_629093, kc_660401, kc_679843, kc_918640, kc_979410, kc_1178088, kc_6232410, kc_24644941, kc_36238189, kc_38270444, kc_392531318, kc_425693491, kc_1103515245, kc_1342154595, kc_2147483648, kc_42328242873, kc_891704255789, kc_1722105685577, kc_1858726030364, ct_0, ct_1, ct_2, ct_3, ct_4, ct_5, cf_0, cf_1, cf_2, cf_3, cf_4, cf_5, w_ty6, w_ty7, m_sv, m_z0, m_hd, m_g0, m_gs, m_s0, m_ss, m_ap, m_an, forall_const, true_and, and_true, ne_eq, not_true_eq_false, not_false_eq_true, false_implies, true_implies, implies_true, eq_self, reduceCtorEq, Nat.reduceDiv, Nat.reduceMod, Int.reduceToNat, or_true, true_or, or_false, false_or, or_self, m_it, m_if, m_c1, m_01, m_02, m_03, m_04, m_10, m_12, m_13, m_14, m_20, m_21, m_23, m_24, m_30, m_31, m_32, m_34, m_40, m_41, m_42, m_43]
  have ba_w : 0 ≤ h4 182 7 ∧ h4 182 7 < 1002 := ⟨s2_w, by omega⟩
  refine ⟨fun z4 => ⟨ba_w, fun hs => ?_, fun hs => ⟨fun z => by omega, fun _ => ?_⟩⟩, fun z4 => ⟨fun _ => ⟨_, rfl, ht_fld p4_w.1 rfl, P, p4q, p4d, by omega, by omega⟩, fun z => by omega⟩⟩
  · obtain ⟨h5, y1, r5_w, at5_w⟩ := c210 h4 r4 z4
    obtain ⟨h6, w1_w, w2_w, w3_w, w4_w⟩ := c194 h5 59 r5_w.1 ⟨by decide, by decide⟩
    have d6_w := r5_w.pf (r5_w.1.pa w2_w) w2_w.pf
    refine ⟨[], h5, y1, [], h6, w1_w, d6_w.2.1, ?_⟩
    show 2 * ((N : Int) - h6 182 7).toNat + (if h6 182 8 = 0 then 1 else 0) < 2 * ((N : Int) - h4 182 7).toNat + (if h4 182 8 = 0 then 1 else 0)
    rw [if_pos z4]
    by_cases t : tkS h5 59
    · have e5_w := w3_w t
      have e7_w : h6 182 7 = h5 182 7 + 1 := by
        rw [e5_w]
        exact up_eq
      have n5_w := w2_w.2.2.2.2.2
      split <;> omega
    · obtain ⟨k1_w, k2, -⟩ := w4_w t
      rw [if_neg k2]
      omega
  · refine w_lp (fun en h' => ∃ k : Nat, en = [182, (k : Int)] ∧ k ≤ 95 ∧ HT g_fk a_g3 h' ∧ (∀ o i : Nat, (o = 188 → k ≤ i) → h' o i = h4 o i) ∧ ∀ i, i < k → h' 188 i = h4 188 (95 + i)) (fun en _ => 95 - (en.getD 1 0).toNat) ⟨0, rfl, by decide, p4q.1, fun _ _ _ => rfl, fun i hi_w => by omega⟩ ?_
    rintro en h5 ⟨k, rfl, k95, H5, o5_w, n5_w⟩
    refine ⟨by show 95 - ((k : Int)).toNat < K; omega, ?_⟩
    simp only [wf_4, wf_40, wf_5, wf_50, wf_6, wl_1, wt_1, wu_1, wa_1, wl_4, wt_4, wu_4, wa_4, wl_5, wt_5, wu_5, wa_5, wl_6, wt_6, wu_6, wa_6, wl_9, wt_9, wu_9, wa_9, wl_10, wt_10, wu_10, wa_10, wl_11, wt_11, wu_11, wa_11, wl_13, wt_13, wu_13, wa_13, wl_14, wt_14, wu_14, wa_14, wl_15, wt_15, wu_15, wa_15, wl_16, wt_16, wu_16, wa_16, wl_17, wt_17, wu_17, wa_17, wl_20, wt_20, wu_20, wa_20, wl_21, wt_21, wu_21, wa_21, wl_22, wt_22, wu_22, wa_22, wl_23, wt_23, wu_23, wa_23, wl_24, wt_24, wu_24, wa_24, wl_26, wt_26, wu_26, wa_26, wl_27, wt_27, wu_27, wa_27, wl_28, wt_28, wu_28, wa_28, we_1, we_3, we_10, we_14, we_15, we_16, we_17, we_18, we_20, we_21, we_22, we_24, we_25, we_26, we_27, we_28, we_30, we_31, we_32, wc_20, wc_21, wc_22, wc_24, wc_25, wc_26, wc_27, wc_3, wc_4, wc_7, wc_28, wc_32, ws_1, ws_2, ws_3, ws_4, ws_9, ws_10, ws_11, ws_14, ws_15, ws_16, ws_27, ws_17, ws_20, ws_28, kc_0, kc_1, kn_1, kc_2, kn_2, kc_3, kc_4, kc_5, kc_6, kc_7, kc_8, kc_9, kc_10, kc_12, kc_13, kc_14, kc_16, kc_17, kc_18, kc_19, kc_20, kc_21, kc_22, kc_24, kc_28, kc_30, kc_32, kc_37, kc_40, kc_41, kc_42, kc_43, kc_45, kc_48, kc_56, kc_57, kc_59, kc_60, kc_61, kc_64, kc_73, kc_78, kc_91, kc_95, kc_96, kc_97, kc_98, kc_99, kc_100, kc_112, kc_122, kc_125, kc_126, kc_150, kc_162, kc_163, kc_168, kc_186, kc_190, kc_200, kc_250, kc_255, kc_355, kc_356, kc_404, kc_405, kc_429, kc_573, kc_999, kc_1000, kc_1002, kc_1100, kc_1891, kc_2200, kc_4719, kc_4869, kc_4881, kc_5148, kc_9999, kn_9999, kc_10000, kc_12345, kc_19741, kc_25433, kc_65536, kc_320403, kc_628412, kc_629093, kc_660401, kc_679843, kc_918640, kc_979410, kc_1178088, kc_6232410, kc_24644941, kc_36238189, kc_38270444, kc_392531318, kc_425693491, kc_1103515245, kc_1342154595, kc_2147483648, kc_42328242873, kc_891704255789, kc_1722105685577, kc_1858726030364, ct_0, ct_1, ct_2, ct_3, ct_4, ct_5, cf_0, cf_1, cf_2, cf_3, cf_4, cf_5, w_ty6, w_ty7, m_sv, m_z0, m_hd, m_g0, m_gs, m_s0, m_ss, m_ap, m_an, forall_const, true_and, and_true, ne_eq, not_true_eq_false, not_false_eq_true, false_implies, true_implies, implies_true, eq_self, reduceCtorEq, Nat.reduceDiv, Nat.reduceMod, Int.reduceToNat, or_true, true_or, or_false, false_or, or_self, m_it, m_if, m_c1, m_01, m_02, m_03, m_04, m_10, m_12, m_13, m_14, m_20, m_21, m_23, m_24, m_30, m_31, m_32, m_34, m_40, m_41, m_42, m_43]
    refine ⟨fun hk => ?_, fun hk => ?_⟩
    · rw [jadd (x := 95) (y := (k : Int)) (by omega) (by omega), jinc (by omega) (by omega), show (95 + (k : Int)).toNat = 95 + k by omega, Int.toNat_natCast]
      refine ⟨⟨by omega, by omega⟩, ⟨by omega, by omega⟩, ⟨k + 1, rfl, by omega, ht_up H5 (by decide) (ht_int H5 (by decide) _), fun o i e => ?_, fun i hi_w => ?_⟩, by show 95 - ((k : Int) + 1).toNat < 95 - ((k : Int)).toNat; omega⟩
      · rw [up_ne (fun z => by have := e z.1; have := z.2; omega)]
        exact o5_w o i (fun z => by have := e z; omega)
      · by_cases e : i = k
        · rw [e, up_eq]
          exact o5_w 188 _ (fun _ => by omega)
        · rw [up_ne (fun z => e z.2)]
          exact n5_w i (by omega)
    · obtain rfl : k = 95 := by omega
      obtain ⟨m, hm_w⟩ : ∃ m : Nat, h4 182 12 = (m : Int) := ⟨(h4 182 12).toNat, by omega⟩
      refine w_lp (fun en h' => ∃ k : Nat, en = [182, (k : Int)] ∧ k ≤ m ∧ HT g_fk a_g3 h' ∧ (∀ o i : Nat, (o = 188 → 95 ≤ i) → (o = 189 → k ≤ i) → h' o i = h4 o i) ∧ (∀ i, i < 95 → h' 188 i = h4 188 (95 + i)) ∧ ∀ i, i < k → h' 189 i = h4 189 (1100 + i)) (fun en _ => m - (en.getD 1 0).toNat) ⟨0, rfl, by omega, H5, fun o i e _ => o5_w o i e, n5_w, fun i hi_w => by omega⟩ ?_
      rintro en h6 ⟨k, rfl, km, H6, o6, n6_w, m6_w⟩
      refine ⟨by show m - ((k : Int)).toNat < K; omega, ?_⟩
      simp only [wf_4, wf_40, wf_5, wf_50, wf_6, wl_1, wt_1, wu_1, wa_1, wl_4, wt_4, wu_4, wa_4, wl_5, wt_5, wu_5, wa_5, wl_6, wt_6, wu_6, wa_6, wl_9, wt_9, wu_9, wa_9, wl_10, wt_10, wu_10, wa_10, wl_11, wt_11, wu_11, wa_11, wl_13, wt_13, wu_13, wa_13, wl_14, wt_14, wu_14, wa_14, wl_15, wt_15, wu_15, wa_15, wl_16, wt_16, wu_16, wa_16, wl_17, wt_17, wu_17, wa_17, wl_20, wt_20, wu_20, wa_20, wl_21, wt_21, wu_21, wa_21, wl_22, wt_22, wu_22, wa_22, wl_23, wt_23, wu_23, wa_23, wl_24, wt_24, wu_24, wa_24, wl_26, wt_26, wu_26, wa_26, wl_27, wt_27, wu_27, wa_27, wl_28, wt_28, wu_28, wa_28, we_1, we_3, we_10, we_14, we_15, we_16, we_17, we_18, we_20, we_21, we_22, we_24, we_25, we_26, we_27, we_28, we_30, we_31, we_32, wc_20, wc_21, wc_22, wc_24, wc_25, wc_26, wc_27, wc_3, wc_4, wc_7, wc_28, wc_32, ws_1, ws_2, ws_3, ws_4, ws_9, ws_10, ws_11, ws_14, ws_15, ws_16, ws_27, ws_17, ws_20, ws_28, kc_0, kc_1, kn_1, kc_2, kn_2, kc_3, kc_4, kc_5, kc_6, kc_7, kc_8, kc_9, kc_10, kc_12, kc_13, kc_14, kc_16, kc_17, kc_18, kc_19, kc_20, kc_21, kc_22, kc_24, kc_28, kc_30, kc_32, kc_37, kc_40, kc_41, kc_42, kc_43, kc_45, kc_48, kc_56, kc_57, kc_59, kc_60, kc_61, kc_64, kc_73, kc_78, kc_91, kc_95, kc_96, kc_97, kc_98, kc_99, kc_100, kc_112, kc_122, kc_125, kc_126, kc_150, kc_162, kc_163, kc_168, kc_186, kc_190, kc_200, kc_250, kc_255, kc_355, kc_356, kc_404, kc_405, kc_429, kc_573, kc_999, kc_1000, kc_1002, kc_1100, kc_1891, kc_2200, kc_4719, kc_4869, kc_4881, kc_5148, kc_9999, kn_9999, kc_10000, kc_12345, kc_19741, kc_25433, kc_65536, kc_320403, kc_628412, kc_629093, kc_660401, kc_679843, kc_918640, kc_979410, kc_1178088, kc_6232410, kc_24644941, kc_36238189, kc_38270444, kc_392531318, kc_425693491, kc_1103515245, kc_1342154595, kc_2147483648, kc_42328242873, kc_891704255789, kc_1722105685577, kc_1858726030364, ct_0, ct_1, ct_2, ct_3, ct_4, ct_5, cf_0, cf_1, cf_2, cf_3, cf_4, cf_5, w_ty6, w_ty7, m_sv, m_z0, m_hd, m_g0, m_gs, m_s0, m_ss, m_ap, m_an, forall_const, true_and, and_true, ne_eq, not_true_eq_false, not_false_eq_true, false_implies, true_implies, implies_true, eq_self, reduceCtorEq, Nat.reduceDiv, Nat.reduceMod, Int.reduceToNat, or_true, true_or, or_false, false_or, or_self, m_it, m_if, m_c1, m_01, m_02, m_03, m_04, m_10, m_12, m_13, m_14, m_20, m_21, m_23, m_24, m_30, m_31, m_32, m_34, m_40, m_41, m_42, m_43]
      rw [o6 182 12 (fun z => absurd z (by decide)) (fun z => absurd z (by decide)), hm_w]
      refine ⟨fun hk => ?_, fun hk => ?_⟩
      · rw [jadd (x := 1100) (y := (k : Int)) (by omega) (by omega), jinc (by omega) (by omega), show (1100 + (k : Int)).toNat = 1100 + k by omega, Int.toNat_natCast]
        refine ⟨⟨by omega, by omega⟩, ⟨by omega, by omega⟩, ⟨k + 1, rfl, by omega, ht_up H6 (by decide) (ht_int H6 (by decide) _), fun o i e e2_w => ?_, fun i hi_w => ?_, fun i hi_w => ?_⟩, by show m - ((k : Int) + 1).toNat < m - ((k : Int)).toNat; omega⟩
        · rw [up_ne (fun z => by have := e2_w z.1; have := z.2; omega)]
          exact o6 o i e (fun z => by have := e2_w z; omega)
        · rw [up_ne (fun z => absurd z.1 (by decide))]
          exact n6_w i hi_w
        · by_cases e : i = k
          · rw [e, up_eq]
            exact o6 189 _ (fun z => absurd z (by decide)) (fun _ => by omega)
          · rw [up_ne (fun z => e z.2)]
            exact m6_w i (by omega)
      · obtain rfl : k = m := by omega
        refine w_lp (fun en h' => ∃ j : Nat, en = [182, (j : Int)] ∧ j ≤ 14 ∧ HT g_fk a_g3 h' ∧ (∀ o i : Nat, (o = 188 → 95 ≤ i) → (o = 189 → k ≤ i) → o ≠ 190 → h' o i = h4 o i) ∧ (∀ i, i < 95 → h' 188 i = h4 188 (95 + i)) ∧ ∀ i, i < k → h' 189 i = h4 189 (1100 + i)) (fun en _ => 14 - (en.getD 1 0).toNat) ⟨0, rfl, by omega, H6, fun o i e e2_w _ => o6 o i e e2_w, n6_w, m6_w⟩ ?_
        rintro en h7 ⟨j, rfl, j14_w, H7, o7, n7, m7_w⟩
        refine ⟨by show 14 - ((j : Int)).toNat < K; omega, ?_⟩
        simp only [wf_4, wf_40, wf_5, wf_50, wf_6, wl_1, wt_1, wu_1, wa_1, wl_4, wt_4, wu_4, wa_4, wl_5, wt_5, wu_5, wa_5, wl_6, wt_6, wu_6, wa_6, wl_9, wt_9, wu_9, wa_9, wl_10, wt_10, wu_10, wa_10, wl_11, wt_11, wu_11, wa_11, wl_13, wt_13, wu_13, wa_13, wl_14, wt_14, wu_14, wa_14, wl_15, wt_15, wu_15, wa_15, wl_16, wt_16, wu_16, wa_16, wl_17, wt_17, wu_17, wa_17, wl_20, wt_20, wu_20, wa_20, wl_21, wt_21, wu_21, wa_21, wl_22, wt_22, wu_22, wa_22, wl_23, wt_23, wu_23, wa_23, wl_24, wt_24, wu_24, wa_24, wl_26, wt_26, wu_26, wa_26, wl_27, wt_27, wu_27, wa_27, wl_28, wt_28, wu_28, wa_28, we_1, we_3, we_10, we_14, we_15, we_16, we_17, we_18, we_20, we_21, we_22, we_24, we_25, we_26, we_27, we_28, we_30, we_31, we_32, wc_20, wc_21, wc_22, wc_24, wc_25, wc_26, wc_27, wc_3, wc_4, wc_7, wc_28, wc_32, ws_1, ws_2, ws_3, ws_4, ws_9, ws_10, ws_11, ws_14, ws_15, ws_16, ws_27, ws_17, ws_20, ws_28, kc_0, kc_1, kn_1, kc_2, kn_2, kc_3, kc_4, kc_5, kc_6, kc_7, kc_8, kc_9, kc_10, kc_12, kc_13, kc_14, kc_16, kc_17, kc_18, kc_19, kc_20, kc_21, kc_22, kc_24, kc_28, kc_30, kc_32, kc_37, kc_40, kc_41, kc_42, kc_43, kc_45, kc_48, kc_56, kc_57, kc_59, kc_60, kc_61, kc_64, kc_73, kc_78, kc_91, kc_95, kc_96, kc_97, kc_98, kc_99, kc_100, kc_112, kc_122, kc_125, kc_126, kc_150, kc_162, kc_163, kc_168, kc_186, kc_190, kc_200, kc_250, kc_255, kc_355, kc_356, kc_404, kc_405, kc_429, kc_573, kc_999, kc_1000, kc_1002, kc_1100, kc_1891, kc_2200, kc_4719, kc_4869, kc_4881, kc_5148, kc_9999, kn_9999, kc_10000, kc_12345, kc_19741, kc_25433, kc_65536, kc_320403, kc_628412, kc_629093, kc_660401, kc_679843, kc_918640, kc_979410, kc_1178088, kc_6232410, kc_24644941, kc_36238189, kc_38270444, kc_392531318, kc_425693491, kc_1103515245, kc_1342154595, kc_2147483648, kc_42328242873, kc_891704255789, kc_1722105685577, kc_1858726030364, ct_0, ct_1, ct_2, ct_3, ct_4, ct_5, cf_0, cf_1, cf_2, cf_3, cf_4, cf_5, w_ty6, w_ty7, m_sv, m_z0, m_hd, m_g0, m_gs, m_s0, m_ss, m_ap, m_an, forall_const, true_and, and_true, ne_eq, not_true_eq_false, not_false_eq_true, false_implies, true_implies, implies_true, eq_self, reduceCtorEq, Nat.reduceDiv, Nat.reduceMod, Int.reduceToNat, or_true, true_or, or_false, false_or, or_self, m_it, m_if, m_c1, m_01, m_02, m_03, m_04, m_10, m_12, m_13, m_14, m_20, m_21, m_23, m_24, m_30, m_31, m_32, m_34, m_40, m_41, m_42, m_43]
        refine ⟨fun hj => ?_, fun hj => ?_⟩
        · rw [jadd (x := 14) (y := (j : Int)) (by omega) (by omega), jinc (by omega) (by omega), show (14 + (j : Int)).toNat = 14 + j by omega, Int.toNat_natCast]
          refine ⟨⟨by omega, by omega⟩, ⟨by omega, by omega⟩, ⟨j + 1, rfl, by omega, ht_upL H7 (by decide) (ht_long H7 (by decide) _), fun o i e e2_w e3_w => ?_, fun i hi_w => ?_, fun i hi_w => ?_⟩, by show 14 - ((j : Int) + 1).toNat < 14 - ((j : Int)).toNat; omega⟩
          · rw [up_ne (fun z => e3_w z.1)]
            exact o7 o i e e2_w e3_w
          · rw [up_ne (fun z => absurd z.1 (by decide))]
            exact n7 i hi_w
          · rw [up_ne (fun z => absurd z.1 (by decide))]
            exact m7_w i hi_w
        · have qn : QK (h4 188 98, h4 188 96) (r_T 0) JT h7 := new_QK p4q rfl H7 (fun i => o7 182 i (fun z => absurd z (by decide)) (fun z => absurd z (by decide)) (by decide)) n7 (fun i hi_w => o7 188 i (fun _ => hi_w) (fun z => absurd z (by decide)) (by decide)) (fun q i z1 z2 z3 z4 => o7 q i (fun z => absurd z z2) (fun z => absurd z z3) z4)
          have w6_w := r_98 p4q
          have w4_w := r_96 p4q
          have gg : GridOK (h7 188) 0 (h4 188 98) (h4 188 96) := by
            refine ⟨fun i hi_w => ?_, fun c hc_w => ?_⟩
            · rw [n7 _ (by omega), Nat.zero_add]
              exact p4d.1 i hi_w
            · rw [n7 _ (by omega), Nat.zero_add]
              exact p4d.2 c hc_w
          have ll : 0 ≤ h7 188 4 → CodeOK (h7 189) (h7 188 4).toNat := fun z => by
            have e4_w : h7 188 4 = h4 188 99 := n7 4 (by decide)
            rw [e4_w] at z ⊢
            rcases r4.2.2 with d | d | ⟨e0, l, e1_w, e2_w, e3_w, e5_w⟩
            · omega
            · exact absurd z4 d
            · refine ⟨l, fun i hi_w => ?_, ?_, by omega, e5_w⟩
              · rw [m7_w _ (by omega), show 1100 + ((h4 188 99).toNat + i) = 1100 + (h4 188 99).toNat + i by omega]
                exact e1_w i hi_w
              · rw [m7_w _ (by omega), show 1100 + ((h4 188 99).toNat + l.length) = 1100 + (h4 188 99).toNat + l.length by omega]
                exact e2_w
          obtain ⟨r, h8, y1, -, y2, y3, y4⟩ := c241 _ h7 qn gg ll
          refine ⟨r, h8, y1, 0, rfl, in_0, _, y2, ?_, ?_, ?_⟩
          · unfold DG
            rw [y3, o7 188 98 (fun _ => by decide) (fun z => absurd z (by decide)) (by decide), o7 188 96 (fun _ => by decide) (fun z => absurd z (by decide)) (by decide)]
            refine ⟨fun i hi_w => ?_, fun c hc_w => ?_⟩
            · rw [o7 188 _ (fun _ => by omega) (fun z => absurd z (by decide)) (by decide)]
              exact p4d.1 i hi_w
            · rw [o7 188 _ (fun _ => by omega) (fun z => absurd z (by decide)) (by decide)]
              exact p4d.2 c hc_w
          · rw [y4, o7 182 12 (fun z => absurd z (by decide)) (fun z => absurd z (by decide)) (by decide)]
            exact s6_w
          · rw [y4, o7 182 12 (fun z => absurd z (by decide)) (fun z => absurd z (by decide)) (by decide)]
            omega
end PARK
end
section
/-! ===== the reference's parser: put together ===== -/
section PARL
variable {P : Int × Int} {N : Nat} {g : Nat × Nat} {xs : Nat → Int} {L K n : Nat} {ck : Nat → List Nat} {cW : Nat → Nat → Int} {h : XH}
theorem p_210 (hK_w : 4294967300 ≤ K) : G210 P N g (evF xs L ck K cW g_M (n + 40)) := by
  have pb : ∀ m, PB P N g (evF xs L ck K cW g_M (m + 5)) := fun m => p_b hK_w
  obtain ⟨c191, c192, c193, c194, c195, c196, c197, c200, c201, c202, c203, c204, c205, c216⟩ := pb (n + 34)
  obtain ⟨d191_w, -, -, -, -, -, d197_w, d200_w, -, d202_w, d203_w, d204_w, d205_w, -⟩ := pb (n + 33)
  obtain ⟨e191, -, -, -, -, -, -, e200, -, -, e203, e204, -, -⟩ := pb (n + 32)
  have e : GE 217 25 0 P N g (evF xs L ck K cW g_M (n + 39)) := (g_E hK_w 5 (n + 4) 0 (by decide) (by decide)).2
  exact g_210 c191 c193 c200 g_207 (g_208 d191_w d203_w d204_w g_207) (g_209 d191_w g_207) (g_211 hK_w d191_w d200_w) (g_212 d197_w d200_w g_207 (g_208 e191 e203 e204 g_207) (g_211 hK_w e191 e200)) (g_213 d197_w d202_w d205_w g_207 (g_208 e191 e203 e204 g_207)) c216 e
theorem p_215 (hK2 : 20000000000 ≤ K) (hn : n + 40 < 99999) : G215 P N g (evF xs L ck K cW g_M (n + 40)) := by
  obtain ⟨c191, c192, c193, c194, c195, c196, c197, c200, c201, c202, c203, c204, c205, c216⟩ := p_b (P := P) (N := N) (g := g) (xs := xs) (L := L) (K := K) (n := n + 34) (ck := ck) (cW := cW) (by omega)
  exact g_215 c200 c205 (gv_of hK2 (by rw [rd_225]; omega) (by omega) rfl rr_225 (by decide +kernel) (by decide +kernel)) (gv_of hK2 (by rw [rd_227]; omega) (by omega) rfl rr_227 (by decide +kernel) (by decide +kernel)) (gv_of hK2 (by rw [rd_228]; omega) (by omega) rfl rr_228 (by decide +kernel) (by decide +kernel)) (gv_of hK2 (by rw [rd_233]; omega) (by omega) rp_233 rr_233 (by decide +kernel) (by decide +kernel)) (gv_of hK2 (by rw [rd_234]; omega) (by omega) rp_234 rr_234 (by decide +kernel) (by decide +kernel))
theorem p_214 (hK2 : 20000000000 ≤ K) (hn : n + 41 < 99999) (c190 : G190 P g (evF xs L ck K cW g_M (n + 40))) (hQ : QK P (r_T 0) (RJ P) h) (hD : DG h) (h0 : 0 ≤ h 182 12) (h1 : h 182 12 ≤ 1001) : ∃ r h', evF xs L ck K cW g_M (n + 41) 214 [182] ((a_g3, g), h) = some (1, r, ((a_g3, g), h')) ∧ B214 P r h' :=
  t_214 (n := n + 40) (by omega) c190 (fun N => (p_b (N := N) (n := n + 35) (by omega)).1) (fun N => (p_b (N := N) (n := n + 35) (by omega)).2.2.2.1) (fun N => (p_b (N := N) (n := n + 35) (by omega)).2.2.2.2.2.2.2.2.1) (fun N => p_215 hK2 (by omega)) hQ hD h0 h1
theorem p_206 (hK2 : 20000000000 ≤ K) (c190 : G190 P g (evF xs L ck K cW g_M (n + 40))) (hQ : QK P (r_T 0) (RJ P) h) (hD : DG h) (h0 : 0 ≤ h 182 12) (h1 : h 182 12 ≤ 1001) : ∃ r h', evF xs L ck K cW g_M (n + 41) 206 [182] ((a_g3, g), h) = some (1, r, ((a_g3, g), h')) ∧ B206 r h' :=
  t_206 (n := n + 40) (by omega) c190 (fun N => (p_b (N := N) (n := n + 35) (by omega)).2.2.2.1) (g_199 (n := n + 39) (by omega)) (fun N => p_210 (by omega)) (fun P'_w h q gg ll => t_241 (n := n + 37) (by omega) q gg ll) hQ hD h0 h1
end PARL
end
section
/-! ===== the reference's parser: what a sign is_w ===== -/
def GS (f : Nat) (p : Int → Prop) (g : Nat × Nat) (F : XP) : Prop := ∀ (h : XH) (a : Int), ∃ v, F f [a] ((a_g3, g), h) = some (1, [v], ((a_g3, g), h)) ∧ (v = 0 ∨ v = 1) ∧ (v ≠ 0 ↔ p a)
def G188 (g : Nat × Nat) (F : XP) : Prop := ∀ (h : XH) (a : Int), ∃ v, F 188 [a] ((a_g3, g), h) = some (1, [v], ((a_g3, g), h)) ∧ InI v
section PARM
variable {P : Int × Int} {N : Nat} {g : Nat × Nat} {xs : Nat → Int} {L K n : Nat} {ck : Nat → List Nat} {cW : Nat → Nat → Int} {h : XH}
theorem g_186 : GS 186 (fun a => 97 ≤ a ∧ a ≤ 122) g (evF xs L ck K cW g_M (n + 1)) := fun h a => by
  suffices hs : ∃ r h', evF xs L ck K cW g_M (n + 1) 186 [a] ((a_g3, g), h) = some (1, r, ((a_g3, g), h')) ∧ h' = h ∧ ∃ v, r = [v] ∧ (v = 0 ∨ v = 1) ∧ (v ≠ 0 ↔ 97 ≤ a ∧ a ≤ 122) by
    obtain ⟨r, h', e1_w, rfl, v, rfl, e2_w⟩ := hs
    exact ⟨v, e1_w, e2_w⟩
  refine tr_of gm_186 (B := fun r h' => h' = h ∧ ∃ v, r = [v] ∧ (v = 0 ∨ v = 1) ∧ (v ≠ 0 ↔ 97 ≤ a ∧ a ≤ 122)) ?_
  show wS _ _ K bb_186 [a] h _
  generalize evF xs L ck K cW g_M n = F
  unfold bb_186
  simp only [wf_4, wf_40, wf_5, wf_50, wf_6, wl_1, wt_1, wu_1, wa_1, wl_4, wt_4, wu_4, wa_4, wl_5, wt_5, wu_5, wa_5, wl_6, wt_6, wu_6, wa_6, wl_9, wt_9, wu_9, wa_9, wl_10, wt_10, wu_10, wa_10, wl_11, wt_11, wu_11, wa_11, wl_13, wt_13, wu_13, wa_13, wl_14, wt_14, wu_14, wa_14, wl_15, wt_15, wu_15, wa_15, wl_16, wt_16, wu_16, wa_16, wl_17, wt_17, wu_17, wa_17, wl_20, wt_20, wu_20, wa_20, wl_21, wt_21, wu_21, wa_21, wl_22, wt_22, wu_22, wa_22, wl_23, wt_23, wu_23, wa_23, wl_24, wt_24, wu_24, wa_24, wl_26, wt_26, wu_26, wa_26, wl_27, wt_27, wu_27, wa_27, wl_28, wt_28, wu_28, wa_28, we_1, we_3, we_10, we_14, we_15, we_16, we_17, we_18, we_20, we_21, we_22, we_24, we_25, we_26, we_27, we_28, we_30, we_31, we_32, wc_20, wc_21, wc_22, wc_24, wc_25, wc_26, wc_27, wc_3, wc_4, wc_7, wc_28, wc_32, ws_1, ws_2, ws_3, ws_4, ws_9, ws_10, ws_11, ws_14, ws_15, ws_16, ws_27, ws_17, ws_20, ws_28, kc_0, kc_1, kn_1, kc_2, kn_2, kc_3, kc_4, kc_5, kc_6, kc_7, kc_8, kc_9, kc_10, kc_12, kc_13, kc_14, kc_16, kc_17, kc_18, kc_19, kc_20, kc_21, kc_22, kc_24, kc_28, kc_30, kc_32, kc_37, kc_40, kc_41, kc_42, kc_43, kc_45, kc_48, kc_56, kc_57, kc_59, kc_60, kc_61, kc_64, kc_73, kc_78, kc_91, kc_95, kc_96, kc_97, kc_98, kc_99, kc_100, kc_112, kc_122, kc_125, kc_126, kc_150, kc_162, kc_163, kc_168, kc_186, kc_190, kc_200, kc_250, kc_255, kc_355, kc_356, kc_404, kc_405, kc_429, kc_573, kc_999, kc_1000, kc_1002, kc_1100, kc_1891, kc_2200, kc_4719, kc_4869, kc_4881, kc_5148, kc_9999, kn_9999, kc_10000, kc_12345, kc_19741, kc_25433, kc_65536, kc_320403, kc_628412, kc_629093, kc_660401, kc_679843, kc_918640, kc_979410, kc_1178088, kc_6232410, kc_24644941, kc_36238189, kc_38270444, kc_392531318, kc_425693491, kc_1103515245, kc_1342154595, kc_2147483648, kc_42328242873, kc_891704255789, kc_1722105685577, kc_1858726030364, ct_0, ct_1, ct_2, ct_3, ct_4, ct_5, cf_0, cf_1, cf_2, cf_3, cf_4, cf_5, w_ty6, w_ty7, m_sv, m_z0, m_hd, m_g0, m_gs, m_s0, m_ss, m_ap, m_an, forall_const, true_and, and_true, ne_eq, not_true_eq_false, not_false_eq_true, false_implies, true_implies, implies_true, eq_self, reduceCtorEq, Nat.reduceDiv, Nat.reduceMod, Int.reduceToNat, or_true, true_or, or_false, false_or, or_self, m_it, m_if, m_c1, m_01, m_02, m_03, m_04, m_10, m_12, m_13, m_14, m_20, m_21, m_23, m_24, m_30, m_31, m_32, m_34, m_40, m_41, m_42, m_43]
  exact ⟨fun k => ⟨fun k2 => ⟨1, rfl, Or.inr rfl, fun _ => ⟨k, k2⟩, fun _ => by decide⟩, fun k2 => ⟨0, rfl, Or.inl rfl, fun z => absurd rfl z, fun z => by omega⟩⟩, fun k => ⟨0, rfl, Or.inl rfl, fun z => absurd rfl z, fun z => by omega⟩⟩
theorem g_187 : GS 187 (fun a => 48 ≤ a ∧ a ≤ 57) g (evF xs L ck K cW g_M (n + 1)) := fun h a => by
  suffices hs : ∃ r h', evF xs L ck K cW g_M (n + 1) 187 [a] ((a_g3, g), h) = some (1, r, ((a_g3, g), h')) ∧ h' = h ∧ ∃ v, r = [v] ∧ (v = 0 ∨ v = 1) ∧ (v ≠ 0 ↔ 48 ≤ a ∧ a ≤ 57) by
    obtain ⟨r, h', e1_w, rfl, v, rfl, e2_w⟩ := hs
    exact ⟨v, e1_w, e2_w⟩
  refine tr_of gm_187 (B := fun r h' => h' = h ∧ ∃ v, r = [v] ∧ (v = 0 ∨ v = 1) ∧ (v ≠ 0 ↔ 48 ≤ a ∧ a ≤ 57)) ?_
  show wS _ _ K bb_187 [a] h _
  generalize evF xs L ck K cW g_M n = F
  unfold bb_187
  simp only [wf_4, wf_40, wf_5, wf_50, wf_6, wl_1, wt_1, wu_1, wa_1, wl_4, wt_4, wu_4, wa_4, wl_5, wt_5, wu_5, wa_5, wl_6, wt_6, wu_6, wa_6, wl_9, wt_9, wu_9, wa_9, wl_10, wt_10, wu_10, wa_10, wl_11, wt_11, wu_11, wa_11, wl_13, wt_13, wu_13, wa_13, wl_14, wt_14, wu_14, wa_14, wl_15, wt_15, wu_15, wa_15, wl_16, wt_16, wu_16, wa_16, wl_17, wt_17, wu_17, wa_17, wl_20, wt_20, wu_20, wa_20, wl_21, wt_21, wu_21, wa_21, wl_22, wt_22, wu_22, wa_22, wl_23, wt_23, wu_23, wa_23, wl_24, wt_24, wu_24, wa_24, wl_26, wt_26, wu_26, wa_26, wl_27, wt_27, wu_27, wa_27, wl_28, wt_28, wu_28, wa_28, we_1, we_3, we_10, we_14, we_15, we_16, we_17, we_18, we_20, we_21, we_22, we_24, we_25, we_26, we_27, we_28, we_30, we_31, we_32, wc_20, wc_21, wc_22, wc_24, wc_25, wc_26, wc_27, wc_3, wc_4, wc_7, wc_28, wc_32, ws_1, ws_2, ws_3, ws_4, ws_9, ws_10, ws_11, ws_14, ws_15, ws_16, ws_27, ws_17, ws_20, ws_28, kc_0, kc_1, kn_1, kc_2, kn_2, kc_3, kc_4, kc_5, kc_6, kc_7, kc_8, kc_9, kc_10, kc_12, kc_13, kc_14, kc_16, kc_17, kc_18, kc_19, kc_20, kc_21, kc_22, kc_24, kc_28, kc_30, kc_32, kc_37, kc_40, kc_41, kc_42, kc_43, kc_45, kc_48, kc_56, kc_57, kc_59, kc_60, kc_61, kc_64, kc_73, kc_78, kc_91, kc_95, kc_96, kc_97, kc_98, kc_99, kc_100, kc_112, kc_122, kc_125, kc_126, kc_150, kc_162, kc_163, kc_168, kc_186, kc_190, kc_200, kc_250, kc_255, kc_355, kc_356, kc_404, kc_405, kc_429, kc_573, kc_999, kc_1000, kc_1002, kc_1100, kc_1891, kc_2200, kc_4719, kc_4869, kc_4881, kc_5148, kc_9999, kn_9999, kc_10000, kc_12345, kc_19741, kc_25433, kc_65536, kc_320403, kc_628412, kc_629093, kc_660401, kc_679843, kc_918640, kc_979410, kc_1178088, kc_6232410, kc_24644941, kc_36238189, kc_38270444, kc_392531318, kc_425693491, kc_1103515245, kc_1342154595, kc_2147483648, kc_42328242873, kc_891704255789, kc_1722105685577, kc_1858726030364, ct_0, ct_1, ct_2, ct_3, ct_4, ct_5, cf_0, cf_1, cf_2, cf_3, cf_4, cf_5, w_ty6, w_ty7, m_sv, m_z0, m_hd, m_g0, m_gs, m_s0, m_ss, m_ap, m_an, forall_const, true_and, and_true, ne_eq, not_true_eq_false, not_false_eq_true, false_implies, true_implies, implies_true, eq_self, reduceCtorEq, Nat.reduceDiv, Nat.reduceMod, Int.reduceToNat, or_true, true_or, or_false, false_or, or_self, m_it, m_if, m_c1, m_01, m_02, m_03, m_04, m_10, m_12, m_13, m_14, m_20, m_21, m_23, m_24, m_30, m_31, m_32, m_34, m_40, m_41, m_42, m_43]
  exact ⟨fun k => ⟨fun k2 => ⟨1, rfl, Or.inr rfl, fun _ => ⟨k, k2⟩, fun _ => by decide⟩, fun k2 => ⟨0, rfl, Or.inl rfl, fun z => absurd rfl z, fun z => by omega⟩⟩, fun k => ⟨0, rfl, Or.inl rfl, fun z => absurd rfl z, fun z => by omega⟩⟩
theorem g_188 (c186 : GS 186 (fun a => 97 ≤ a ∧ a ≤ 122) g (evF xs L ck K cW g_M n)) : G188 g (evF xs L ck K cW g_M (n + 1)) := fun h a => by
  suffices hs : ∃ r h', evF xs L ck K cW g_M (n + 1) 188 [a] ((a_g3, g), h) = some (1, r, ((a_g3, g), h')) ∧ h' = h ∧ ∃ v, r = [v] ∧ InI v by
    obtain ⟨r, h', e1_w, rfl, v, rfl, e2_w⟩ := hs
    exact ⟨v, e1_w, e2_w⟩
  refine tr_of gm_188 (B := fun r h' => h' = h ∧ ∃ v, r = [v] ∧ InI v) ?_
  show wS _ _ K bb_188 [a] h _
  generalize evF xs L ck K cW g_M n = F at c186 ⊢
  unfold bb_188
  simp only [wf_4, wf_40, wf_5, wf_50, wf_6, wl_1, wt_1, wu_1, wa_1, wl_4, wt_4, wu_4, wa_4, wl_5, wt_5, wu_5, wa_5, wl_6, wt_6, wu_6, wa_6, wl_9, wt_9, wu_9, wa_9, wl_10, wt_10, wu_10, wa_10, wl_11, wt_11, wu_11, wa_11, wl_13, wt_13, wu_13, wa_13, wl_14, wt_14, wu_14, wa_14, wl_15, wt_15, wu_15, wa_15, wl_16, wt_16, wu_16, wa_16, wl_17, wt_17, wu_17, wa_17, wl_20, wt_20, wu_20, wa_20, wl_21, wt_21, wu_21, wa_21, wl_22, wt_22, wu_22, wa_22, wl_23, wt_23, wu_23, wa_23, wl_24, wt_24, wu_24, wa_24, wl_26, wt_26, wu_26, wa_26, wl_27, wt_27, wu_27, wa_27, wl_28, wt_28, wu_28, wa_28, we_1, we_3, we_10, we_14, we_15, we_16, we_17, we_18, we_20, we_21, we_22, we_24, we_25, we_26, we_27, we_28, we_30, we_31, we_32, wc_20, wc_21, wc_22, wc_24, wc_25, wc_26, wc_27, wc_3, wc_4, wc_7, wc_28, wc_32, ws_1, ws_2, ws_3, ws_4, ws_9, ws_10, ws_11, ws_14, ws_15, ws_16, ws_27, ws_17, ws_20, ws_28, kc_0, kc_1, kn_1, kc_2, kn_2, kc_3, kc_4, kc_5, kc_6, kc_7, kc_8, kc_9, kc_10, kc_12, kc_13, kc_14, kc_16, kc_17, kc_18, kc_19, kc_20, kc_21, kc_22, kc_24, kc_28, kc_30, kc_32, kc_37, kc_40, kc_41, kc_42, kc_43, kc_45, kc_48, kc_56, kc_57, kc_59, kc_60, kc_61, kc_64, kc_73, kc_78, kc_91, kc_95, kc_96, kc_97, kc_98, kc_99, kc_100, kc_112, kc_122, kc_125, kc_126, kc_150, kc_162, kc_163, kc_168, kc_186, kc_190, kc_200, kc_250, kc_255, kc_355, kc_356, kc_404, kc_405, kc_429, kc_573, kc_999, kc_1000, kc_1002, kc_1100, kc_1891, kc_2200, kc_4719, kc_4869, kc_4881, kc_5148, kc_9999, kn_9999, kc_10000, kc_12345, kc_19741, kc_25433, kc_65536, kc_320403, kc_628412, kc_629093, kc_660401, kc_679843, kc_918640, kc_979410, kc_1178088, kc_6232410, kc_24644941, kc_36238189, kc_38270444, kc_392531318, kc_425693491, kc_1103515245, kc_1342154595, kc_2147483648, kc_42328242873, kc_891704255789, kc_1722105685577, kc_1858726030364, ct_0, ct_1, ct_2, ct_3, ct_4, ct_5, cf_0, cf_1, cf_2, cf_3, cf_4, cf_5, w_ty6, w_ty7, m_sv, m_z0, m_hd, m_g0, m_gs, m_s0, m_ss, m_ap, m_an, forall_const, true_and, and_true, ne_eq, not_true_eq_false, not_false_eq_true, false_implies, true_implies, implies_true, eq_self, reduceCtorEq, Nat.reduceDiv, Nat.reduceMod, Int.reduceToNat, or_true, true_or, or_false, false_or, or_self, m_it, m_if, m_c1, m_01, m_02, m_03, m_04, m_10, m_12, m_13, m_14, m_20, m_21, m_23, m_24, m_30, m_31, m_32, m_34, m_40, m_41, m_42, m_43]
  obtain ⟨v, e1_w, -⟩ := c186 h a
  exact ⟨[v], h, e1_w, fun _ => ⟨rfl, _, rfl, iop_in 1 _ _⟩, fun _ => ⟨rfl, _, rfl, iop_in 1 _ _⟩⟩
theorem g_189 : GS 189 (fun a => a = 40 ∨ a = 41 ∨ a = 59 ∨ a = 61 ∨ a = 60 ∨ a = 43 ∨ a = 45 ∨ a = 42) g (evF xs L ck K cW g_M (n + 1)) := fun h a => by
  suffices hs : ∃ r h', evF xs L ck K cW g_M (n + 1) 189 [a] ((a_g3, g), h) = some (1, r, ((a_g3, g), h')) ∧ h' = h ∧ ∃ v, r = [v] ∧ (v = 0 ∨ v = 1) ∧ (v ≠ 0 ↔ (a = 40 ∨ a = 41 ∨ a = 59 ∨ a = 61 ∨ a = 60 ∨ a = 43 ∨ a = 45 ∨ a = 42)) by
    obtain ⟨r, h', e1_w, rfl, v, rfl, e2_w⟩ := hs
    exact ⟨v, e1_w, e2_w⟩
  refine tr_of gm_189 (B := fun r h' => h' = h ∧ ∃ v, r = [v] ∧ (v = 0 ∨ v = 1) ∧ (v ≠ 0 ↔ (a = 40 ∨ a = 41 ∨ a = 59 ∨ a = 61 ∨ a = 60 ∨ a = 43 ∨ a = 45 ∨ a = 42))) ?_
  show wS _ _ K bb_189 [a] h _
  generalize evF xs L ck K cW g_M n = F
  unfold bb_189
  simp only [wf_4, wf_40, wf_5, wf_50, wf_6, wl_1, wt_1, wu_1, wa_1, wl_4, wt_4, wu_4, wa_4, wl_5, wt_5, wu_5, wa_5, wl_6, wt_6, wu_6, wa_6, wl_9, wt_9, wu_9, wa_9, wl_10, wt_10, wu_10, wa_10, wl_11, wt_11, wu_11, wa_11, wl_13, wt_13, wu_13, wa_13, wl_14, wt_14, wu_14, wa_14, wl_15, wt_15, wu_15, wa_15, wl_16, wt_16, wu_16, wa_16, wl_17, wt_17, wu_17, wa_17, wl_20, wt_20, wu_20, wa_20, wl_21, wt_21, wu_21, wa_21, wl_22, wt_22, wu_22, wa_22, wl_23, wt_23, wu_23, wa_23, wl_24, wt_24, wu_24, wa_24, wl_26, wt_26, wu_26, wa_26, wl_27, wt_27, wu_27, wa_27, wl_28, wt_28, wu_28, wa_28, we_1, we_3, we_10, we_14, we_15, we_16, we_17, we_18, we_20, we_21, we_22, we_24, we_25, we_26, we_27, we_28, we_30, we_31, we_32, wc_20, wc_21, wc_22, wc_24, wc_25, wc_26, wc_27, wc_3, wc_4, wc_7, wc_28, wc_32, ws_1, ws_2, ws_3, ws_4, ws_9, ws_10, ws_11, ws_14, ws_15, ws_16, ws_27, ws_17, ws_20, ws_28, kc_0, kc_1, kn_1, kc_2, kn_2, kc_3, kc_4, kc_5, kc_6, kc_7, kc_8, kc_9, kc_10, kc_12, kc_13, kc_14, kc_16, kc_17, kc_18, kc_19, kc_20, kc_21, kc_22, kc_24, kc_28, kc_30, kc_32, kc_37, kc_40, kc_41, kc_42, kc_43, kc_45, kc_48, kc_56, kc_57, kc_59, kc_60, kc_61, kc_64, kc_73, kc_78, kc_91, kc_95, kc_96, kc_97, kc_98, kc_99, kc_100, kc_112, kc_122, kc_125, kc_126, kc_150, kc_162, kc_163, kc_168, kc_186, kc_190, kc_200, kc_250, kc_255, kc_355, kc_356, kc_404, kc_405, kc_429, kc_573, kc_999, kc_1000, kc_1002, kc_1100, kc_1891, kc_2200, kc_4719, kc_4869, kc_4881, kc_5148, kc_9999, kn_9999, kc_10000, kc_12345, kc_19741, kc_25433, kc_65536, kc_320403, kc_628412, kc_629093, kc_660401, kc_679843, kc_918640, kc_979410, kc_1178088, kc_6232410, kc_24644941, kc_36238189, kc_38270444, kc_392531318, kc_425693491, kc_1103515245, kc_1342154595, kc_2147483648, kc_42328242873, kc_891704255789, kc_1722105685577, kc_1858726030364, ct_0, ct_1, ct_2, ct_3, ct_4, ct_5, cf_0, cf_1, cf_2, cf_3, cf_4, cf_5, w_ty6, w_ty7, m_sv, m_z0, m_hd, m_g0, m_gs, m_s0, m_ss, m_ap, m_an, forall_const, true_and, and_true, ne_eq, not_true_eq_false, not_false_eq_true, false_implies, true_implies, implies_true, eq_self, reduceCtorEq, Nat.reduceDiv, Nat.reduceMod, Int.reduceToNat, or_true, true_or, or_false, false_or, or_self, m_it, m_if, m_c1, m_01, m_02, m_03, m_04, m_10, m_12, m_13, m_14, m_20, m_21, m_23, m_24, m_30, m_31, m_32, m_34, m_40, m_41, m_42, m_43]
  have one : (a = 40 ∨ a = 41 ∨ a = 59 ∨ a = 61 ∨ a = 60 ∨ a = 43 ∨ a = 45 ∨ a = 42) → ∃ v, [(1 : Int)] = [v] ∧ (v = 0 ∨ v = 1) ∧ (¬v = 0 ↔ (a = 40 ∨ a = 41 ∨ a = 59 ∨ a = 61 ∨ a = 60 ∨ a = 43 ∨ a = 45 ∨ a = 42)) := fun k => ⟨1, rfl, Or.inr rfl, fun _ => k, fun _ => by decide⟩
  refine ⟨fun k => one (by omega), fun k1_w => ⟨fun k => one (by omega), fun k2 => ⟨fun k => one (by omega), fun k3 => ⟨fun k => one (by omega), fun k4 => ⟨fun k => one (by omega), fun k5 => ⟨fun k => one (by omega), fun k6 => ⟨fun k => one (by omega), fun k7 => ⟨fun k => one (by omega), fun k8 => ⟨0, rfl, Or.inl rfl, fun z => absurd rfl z, fun z => by omega⟩⟩⟩⟩⟩⟩⟩⟩⟩
end PARM
end
section
/-! ===== the reference's parser: what was fed is_w cut_w ===== -/
def VN (m : Nat) (h : XH) : Prop := ∀ i : Nat, i < m → h 184 i = 2 → 0 ≤ h 186 i ∧ h 186 i ≤ 9999
def B190 (P : Int × Int) (h : XH) (r : List Int) (h' : XH) : Prop := r = [] ∧ ∃ N, PK P N h' ∧ h' 182 7 = 0 ∧ ∀ o k : Nat, (o = 182 → k ≠ 2 ∧ k ≠ 3 ∧ k ≠ 7 ∧ k ≠ 8) → (o ≠ 184 ∧ o ≠ 185 ∧ o ≠ 186) → h' o k = h o k
section PARN
variable {P : Int × Int} {N : Nat} {g : Nat × Nat} {xs : Nat → Int} {L K n : Nat} {ck : Nat → List Nat} {cW : Nat → Nat → Int} {h : XH}
/-- a cell_w of what was cut_w -/
theorem tw_QK (hQ : QK P (r_T 0) (RJ P) h) {q i : Nat} {v : Int} (hH : HT g_fk a_g3 (j_up h q i v)) (h0 : q = 184 ∨ q = 185 ∨ q = 186) (hv : ∀ r ∈ (r_A q).2.2, r.1 ≤ i → i < r.2.1 → IV P r.2.2 v) : QK P (r_T 0) (RJ P) (j_up h q i v) := by
  have o : ∀ p : Nat, p ≠ 184 → p ≠ 185 → p ≠ 186 → j_up h q i v p = h p := fun p z1 z2 z3 => funext fun k => up_ne (fun z => by omega)
  refine ⟨hH, fun k => ?_, fun q' hq' => ?_, ?_⟩
  · rw [o 182 (by decide) (by decide) (by decide)]
    exact hQ.2.1 k
  · by_cases e : q' = q
    · subst e
      intro r hr a b k1_w k2 k3
      have eb : (qA (r_T 0) q').2.1 = 0 := by
        rcases h0 with rfl | rfl | rfl <;> rfl
      have old_w := hQ.2.2.1 q' hq' r hr a b k1_w k2 k3
      rw [eb, Nat.zero_mul, Nat.zero_add] at old_w ⊢
      by_cases e2_w : a = i
      · subst e2_w
        rw [up_eq]
        exact hv r hr k1_w k2
      · rw [up_ne (fun z => e2_w z.2)]
        exact old_w
    · have e2_w : j_up h q i v q' = h q' := funext fun i => up_ne (fun z => e z.1)
      rw [e2_w]
      exact hQ.2.2.1 q' hq'
  · unfold RJ
    rw [o 188 (by decide) (by decide) (by decide), o 189 (by decide) (by decide) (by decide), o 191 (by decide) (by decide) (by decide)]
    exact hQ.2.2.2
theorem tw_4 (hQ : QK P (r_T 0) (RJ P) h) {i : Nat} {v : Int} (h0 : 0 ≤ v) (h4 : v ≤ 4) : QK P (r_T 0) (RJ P) (j_up h 184 i v) := by
  have hin : InI v := ⟨by omega, by omega⟩
  exact tw_QK hQ (ht_up hQ.1 (by decide) hin) (Or.inl rfl) (fun r hr _ _ => by
    have hr2 : r ∈ [(0, 1002, ((1, 0, 4) : IT))] := hr
    rw [List.mem_singleton] at hr2
    subst hr2
    exact ⟨h0, h4, hin⟩)
theorem tw_5 (hQ : QK P (r_T 0) (RJ P) h) {i : Nat} {v : Int} (h0 : 0 ≤ v) (h4 : v ≤ 1000) : QK P (r_T 0) (RJ P) (j_up h 185 i v) := by
  have hin : InI v := ⟨by omega, by omega⟩
  exact tw_QK hQ (ht_up hQ.1 (by decide) hin) (Or.inr (Or.inl rfl)) (fun r hr _ _ => by
    have hr2 : r ∈ [(0, 1002, ((1, 0, 1000) : IT))] := hr
    rw [List.mem_singleton] at hr2
    subst hr2
    exact ⟨h0, h4, hin⟩)
theorem tw_6 (hQ : QK P (r_T 0) (RJ P) h) {i : Nat} {v : Int} (hin : InL v) : QK P (r_T 0) (RJ P) (j_up h 186 i v) :=
  tw_QK hQ (ht_upL hQ.1 (by decide) hin) (Or.inr (Or.inr rfl)) (fun r hr _ _ => by
    have hr2 : r ∈ [(0, 1002, ((2, (-9223372036854775808), 9223372036854775807) : IT))] := hr
    rw [List.mem_singleton] at hr2
    subst hr2
    exact IV.topL hin)
end PARN
section PARO
variable {P : Int × Int} {N : Nat} {g : Nat × Nat} {xs : Nat → Int} {L K n : Nat} {ck : Nat → List Nat} {cW : Nat → Nat → Int} {h : XH}
theorem g_190 (hK_w : 4294967300 ≤ K) (c186 : GS 186 (fun a => 97 ≤ a ∧ a ≤ 122) g (evF xs L ck K cW g_M n)) (c187 : GS 187 (fun a => 48 ≤ a ∧ a ≤ 57) g (evF xs L ck K cW g_M n)) (c188 : G188 g (evF xs L ck K cW g_M n)) (c189 : GS 189 (fun a => a = 40 ∨ a = 41 ∨ a = 59 ∨ a = 61 ∨ a = 60 ∨ a = 43 ∨ a = 45 ∨ a = 42) g (evF xs L ck K cW g_M n)) : G190 P g (evF xs L ck K cW g_M (n + 1)) := fun h hQ hD h0 h1 => by
  suffices hs : ∃ r h', evF xs L ck K cW g_M (n + 1) 190 [182] ((a_g3, g), h) = some (1, r, ((a_g3, g), h')) ∧ B190 P h r h' by
    obtain ⟨r, h', e1_w, rfl, N, e2_w⟩ := hs
    exact ⟨N, h', e1_w, e2_w⟩
  refine tr_of gm_190 ?_
  show wS _ _ K bb_190 [182, 0, 0, 0, 0, 0, 0] h _
  generalize evF xs L ck K cW g_M n = F at c186 c187 c188 c189 ⊢
  unfold bb_190
  simp only [wf_4, wf_40, wf_5, wf_50, wf_6, wl_1, wt_1, wu_1, wa_1, wl_4, wt_4, wu_4, wa_4, wl_5, wt_5, wu_5, wa_5, wl_6, wt_6, wu_6, wa_6, wl_9, wt_9, wu_9, wa_9, wl_10, wt_10, wu_10, wa_10, wl_11, wt_11, wu_11, wa_11, wl_13, wt_13, wu_13, wa_13, wl_14, wt_14, wu_14, wa_14, wl_15, wt_15, wu_15, wa_15, wl_16, wt_16, wu_16, wa_16, wl_17, wt_17, wu_17, wa_17, wl_20, wt_20, wu_20, wa_20, wl_21, wt_21, wu_21, wa_21, wl_22, wt_22, wu_22, wa_22, wl_23, wt_23, wu_23, wa_23, wl_24, wt_24, wu_24, wa_24, wl_26, wt_26, wu_26, wa_26, wl_27, wt_27, wu_27, wa_27, wl_28, wt_28, wu_28, wa_28, we_1, we_3, we_10, we_14, we_15, we_16, we_17, we_18, we_20, we_21, we_22, we_24, we_25, we_26, we_27, we_28, we_30, we_31, we_32, wc_20, wc_21, wc_22, wc_24, wc_25, wc_26, wc_27, wc_3, wc_4, wc_7, wc_28, wc_32, ws_1, ws_2, ws_3, ws_4, ws_9, ws_10, ws_11, ws_14, ws_15, ws_16, ws_27, ws_17, ws_20, ws_28, kc_0, kc_1, kn_1, kc_2, kn_2, kc_3, kc_4, kc_5, kc_6, kc_7, kc_8, kc_9, kc_10, kc_12, kc_13, kc_14, kc_16, kc_17, kc_18, kc_19, kc_20, kc_21, kc_22, kc_24, kc_28, kc_30, kc_32, kc_37, kc_40, kc_41, kc_42, kc_43, kc_45, kc_48, kc_56, kc_57, kc_59, kc_60, kc_61, kc_64, kc_73, kc_78, kc_91, kc_95, kc_96, kc_97, kc_98, kc_99, kc_100, kc_112, kc_122, kc_125, kc_126, kc_150, kc_162, kc_163, kc_168, kc_186, kc_190, kc_200, kc_250, kc_255, kc_355, kc_356, kc_404, kc_405, kc_429, kc_573, kc_999, kc_1000, kc_1002, kc_1100, kc_1891, kc_2200, kc_4719, kc_4869, kc_4881, kc_5148, kc_9999, kn_9999, kc_10000, kc_12345, kc_19741, kc_25433, kc_65536, kc_320403, kc_628412, kc_629093, kc_660401, kc_679843, kc_918640, kc_979410, kc_1178088, kc_6232410, kc_24644941, kc_36238189, kc_38270444, kc_392531318, kc_425693491, kc_1103515245, kc_1342154595, kc_2147483648, kc_42328242873, kc_891704255789, kc_1722105685577, kc_1858726030364, ct_0, ct_1, ct_2, ct_3, ct_4, ct_5, cf_0, cf_1, cf_2, cf_3, cf_4, cf_5, w_ty6, w_ty7, m_sv, m_z0, m_hd, m_g0, m_gs, m_s0, m_ss, m_ap, m_an, forall_const, true_and, and_true, ne_eq, not_true_eq_false, not_false_eq_true, false_implies, true_implies, implies_true, eq_self, reduceCtorEq, Nat.reduceDiv, Nat.reduceMod, Int.reduceToNat, or_true, true_or, or_false, false_or, or_self, m_it, m_if, m_c1, m_01, m_02, m_03, m_04, m_10, m_12, m_13, m_14, m_20, m_21, m_23, m_24, m_30, m_31, m_32, m_34, m_40, m_41, m_42, m_43]
  have r2 : IV P (1, 0, 1000) (h 182 2) := hQ.2.1 2
  obtain ⟨S0_w, S1, S2⟩ := r2
  obtain ⟨S, hS_w⟩ : ∃ S : Nat, h 182 2 = (S : Int) := ⟨(h 182 2).toNat, by omega⟩
  have qa : QK P (r_T 0) (RJ P) (j_up h 182 3 (h 182 2)) := (fd_QK hQ rj_js (k := 3) (Or.inl rfl) ⟨S0_w, S1, S2⟩).1
  have qb : QK P (r_T 0) (RJ P) (j_up (j_up h 182 3 (h 182 2)) 182 2 0) := (fd_QK qa rj_js (k := 2) (Or.inl rfl) ⟨by decide, by decide, in_0⟩).1
  have fb : ∀ o k : Nat, (o = 182 → k ≠ 2 ∧ k ≠ 3 ∧ k ≠ 7 ∧ k ≠ 8) → j_up (j_up h 182 3 (h 182 2)) 182 2 0 o k = h o k := fun o k z => by
    rw [up_ne (fun y => (z y.1).1 y.2), up_ne (fun y => (z y.1).2.1 y.2)]
  have sb_w : j_up (j_up h 182 3 (h 182 2)) 182 2 0 182 3 = (S : Int) := by
    rw [up_ne (fun y => absurd y.2 (by decide)), up_eq, hS_w]
  generalize j_up (j_up h 182 3 (h 182 2)) 182 2 0 = H at qb fb sb_w ⊢
  refine w_lp (fun en h' => ∃ (m k : Nat) (c f v w : Int), en = [182, (m : Int), (k : Int), c, f, v, w] ∧ m ≤ k ∧ k ≤ S ∧ QK P (r_T 0) (RJ P) h' ∧ (∀ o i : Nat, (o ≠ 184 ∧ o ≠ 185 ∧ o ≠ 186) → h' o i = H o i) ∧ VN m h') (fun en _ => S - (en.getD 2 0).toNat) ⟨0, 0, 0, 0, 0, 0, rfl, by decide, by omega, qb, fun _ _ _ => rfl, fun i hi_w => by omega⟩ ?_
  rintro en h2 ⟨m, k, c, f, v, w, rfl, mk_w, kS, q2_w, f2_w, v2⟩
  refine ⟨?_, ?_⟩
  · show S - ((k : Int)).toNat < K
    omega
  simp only [wf_4, wf_40, wf_5, wf_50, wf_6, wl_1, wt_1, wu_1, wa_1, wl_4, wt_4, wu_4, wa_4, wl_5, wt_5, wu_5, wa_5, wl_6, wt_6, wu_6, wa_6, wl_9, wt_9, wu_9, wa_9, wl_10, wt_10, wu_10, wa_10, wl_11, wt_11, wu_11, wa_11, wl_13, wt_13, wu_13, wa_13, wl_14, wt_14, wu_14, wa_14, wl_15, wt_15, wu_15, wa_15, wl_16, wt_16, wu_16, wa_16, wl_17, wt_17, wu_17, wa_17, wl_20, wt_20, wu_20, wa_20, wl_21, wt_21, wu_21, wa_21, wl_22, wt_22, wu_22, wa_22, wl_23, wt_23, wu_23, wa_23, wl_24, wt_24, wu_24, wa_24, wl_26, wt_26, wu_26, wa_26, wl_27, wt_27, wu_27, wa_27, wl_28, wt_28, wu_28, wa_28, we_1, we_3, we_10, we_14, we_15, we_16, we_17, we_18, we_20, we_21, we_22, we_24, we_25, we_26, we_27, we_28, we_30, we_31, we_32, wc_20, wc_21, wc_22, wc_24, wc_25, wc_26, wc_27, wc_3, wc_4, wc_7, wc_28, wc_32, ws_1, ws_2, ws_3, ws_4, ws_9, ws_10, ws_11, ws_14, ws_15, ws_16, ws_27, ws_17, ws_20, ws_28, kc_0, kc_1, kn_1, kc_2, kn_2, kc_3, kc_4, kc_5, kc_6, kc_7, kc_8, kc_9, kc_10, kc_12, kc_13, kc_14, kc_16, kc_17, kc_18, kc_19, kc_20, kc_21, kc_22, kc_24, kc_28, kc_30, kc_32, kc_37, kc_40, kc_41, kc_42, kc_43, kc_45, kc_48, kc_56, kc_57, kc_59, kc_60, kc_61, kc_64, kc_73, kc_78, kc_91, kc_95, kc_96, kc_97, kc_98, kc_99, kc_100, kc_112, kc_122, kc_125, kc_126, kc_150, kc_162, kc_163, kc_168, kc_186, kc_190, kc_200, kc_250, kc_255, kc_355, kc_356, kc_404, kc_405, kc_429, kc_573, kc_999, kc_1000, kc_1002, kc_1100, kc_1891, kc_2200, kc_4719, kc_4869, kc_4881, kc_5148, kc_9999, kn_9999, kc_10000, kc_12345, kc_19741, kc_25433, kc_65536, kc_320403, kc_628412, kc_629093, kc_660401, kc_679843, kc_918640, kc_979410, kc_1178088, kc_6232410, kc_24644941, kc_36238189, kc_38270444, kc_392531318, kc_425693491, kc_1103515245, kc_1342154595, kc_2147483648, kc_42328242873, kc_891704255789, kc_1722105685577, kc_1858726030364, ct_0, ct_1, ct_2, ct_3, ct_4, ct_5, cf_0, cf_1, cf_2, cf_3, cf_4, cf_5, w_ty6, w_ty7, m_sv, m_z0, m_hd, m_g0, m_gs, m_s0, m_ss, m_ap, m_an, forall_const, true_and, and_true, ne_eq, not_true_eq_false, not_false_eq_true, false_implies, true_implies, implies_true, eq_self, reduceCtorEq, Nat.reduceDiv, Nat.reduceMod, Int.reduceToNat, or_true, true_or, or_false, false_or, or_self, m_it, m_if, m_c1, m_01, m_02, m_03, m_04, m_10, m_12, m_13, m_14, m_20, m_21, m_23, m_24, m_30, m_31, m_32, m_34, m_40, m_41, m_42, m_43]
  rw [f2_w 182 3 (by decide), sb_w]
  refine ⟨fun hk => ?_, fun hk => ?_⟩
  · have hk2 : k < S := by omega
    rw [Int.toNat_natCast, Int.toNat_natCast]
    have j1 : j32 ((k : Int) + 1) = ((k + 1 : Nat) : Int) := (j32_in ⟨by omega, by omega⟩).trans (by omega)
    rw [j1]
    have step_w : (∃ (m_1 k_1 : Nat) (c f_1 v_1 w_1 : Int), [182, (m : Int), ((k + 1 : Nat) : Int), h2 183 k, f, v, w] = [182, (m_1 : Int), (k_1 : Int), c, f_1, v_1, w_1] ∧ m_1 ≤ k_1 ∧ k_1 ≤ S ∧ QK P (r_T 0) (RJ P) h2 ∧ (∀ o i : Nat, ¬o = 184 ∧ ¬o = 185 ∧ ¬o = 186 → h2 o i = H o i) ∧ VN m_1 h2) ∧ S - ((k + 1 : Nat) : Int).toNat < S - k := ⟨⟨m, k + 1, _, _, _, _, rfl, by omega, by omega, q2_w, f2_w, v2⟩, by omega⟩
    refine ⟨⟨by omega, by omega⟩, fun _ => step_w, fun _ => ⟨fun _ => step_w, fun _ => ⟨⟨by omega, by omega⟩, ?_⟩⟩⟩
    have q5_w := tw_5 q2_w (i := m) (v := (k : Int)) (by omega) (by omega)
    have f5_w : ∀ o i : Nat, (o ≠ 184 ∧ o ≠ 185 ∧ o ≠ 186) → j_up h2 185 m (k : Int) o i = H o i := fun o i z => (up_ne (fun y => z.2.1 y.1)).trans (f2_w o i z)
    have v5 : VN m (j_up h2 185 m (k : Int)) := fun i hi_w hs => by
      rw [up_ne (fun y => absurd y.1 (by decide))] at hs ⊢
      exact v2 i hi_w hs
    have c5 : h2 183 k = H 183 k := f2_w 183 k (by decide)
    rw [c5]
    generalize j_up h2 185 m (k : Int) = h5 at q5_w f5_w v5 ⊢
    obtain ⟨u, x1_w, -, x3⟩ := c186 h5 (H 183 k)
    obtain ⟨u2_w, y1, -, y3⟩ := c187 h5 (H 183 k)
    have endT : ∀ (s v' : Int) (j : Nat), 0 ≤ s → s ≤ 4 → InL v' → (s = 2 → 0 ≤ v' ∧ v' ≤ 9999) → k < j → j ≤ S → (∃ (m_1 k_1 : Nat) (c f v w_1 : Int), [182, j32 ((m : Int) + 1), (j : Int), H 183 k, (k : Int), v', w] = [182, (m_1 : Int), (k_1 : Int), c, f, v, w_1] ∧ m_1 ≤ k_1 ∧ k_1 ≤ S ∧ QK P (r_T 0) (RJ P) (j_up (j_up h5 184 m s) 186 m v') ∧ (∀ o i : Nat, ¬o = 184 ∧ ¬o = 185 ∧ ¬o = 186 → j_up (j_up h5 184 m s) 186 m v' o i = H o i) ∧ VN m_1 (j_up (j_up h5 184 m s) 186 m v')) ∧ S - j < S - k := fun s v' j s0 s4_w iv_w s2_w kj jS_w => by
      rw [j32_in (v := (m : Int) + 1) ⟨by omega, by omega⟩]
      refine ⟨⟨m + 1, j, _, _, _, _, rfl, by omega, jS_w, tw_6 (tw_4 q5_w s0 s4_w) iv_w, fun o i z => ?_, fun i hi_w hs => ?_⟩, by omega⟩
      · rw [up_ne (fun y => z.2.2 y.1), up_ne (fun y => z.1 y.1)]
        exact f5_w o i z
      · rw [up_ne (fun y => absurd y.1 (by decide))] at hs
        by_cases e : i = m
        · subst e
          rw [up_eq] at hs
          rw [up_eq]
          exact s2_w hs
        · rw [up_ne (fun y => e y.2)] at hs
          rw [up_ne (fun y => e y.2), up_ne (fun y => absurd y.1 (by decide))]
          exact v5 i (by omega) hs
    have bm : 0 ≤ (m : Int) ∧ (m : Int) < 1002 := ⟨by omega, by omega⟩
    refine ⟨[u], h5, x1_w, fun hu => ?_, fun hu => ⟨[u2_w], h5, y1, fun hu2 => ?_, fun hu2 => ?_⟩⟩
    · refine w_lp (fun en h' => ∃ (j : Nat) (v' : Int), en = [182, (m : Int), (j : Int), H 183 k, (k : Int), v', w] ∧ k ≤ j ∧ j ≤ S ∧ InL v' ∧ h' = h5) (fun en _ => S - (en.getD 2 0).toNat) ⟨k, 0, rfl, by omega, by omega, ⟨by decide, by decide⟩, rfl⟩ ?_
      rintro en h6 ⟨j, v', rfl, kj, jS_w, iv_w, rfl⟩
      refine ⟨by show S - ((j : Int)).toNat < K; omega, ?_⟩
      simp only [wf_4, wf_40, wf_5, wf_50, wf_6, wl_1, wt_1, wu_1, wa_1, wl_4, wt_4, wu_4, wa_4, wl_5, wt_5, wu_5, wa_5, wl_6, wt_6, wu_6, wa_6, wl_9, wt_9, wu_9, wa_9, wl_10, wt_10, wu_10, wa_10, wl_11, wt_11, wu_11, wa_11, wl_13, wt_13, wu_13, wa_13, wl_14, wt_14, wu_14, wa_14, wl_15, wt_15, wu_15, wa_15, wl_16, wt_16, wu_16, wa_16, wl_17, wt_17, wu_17, wa_17, wl_20, wt_20, wu_20, wa_20, wl_21, wt_21, wu_21, wa_21, wl_22, wt_22, wu_22, wa_22, wl_23, wt_23, wu_23, wa_23, wl_24, wt_24, wu_24, wa_24, wl_26, wt_26, wu_26, wa_26, wl_27, wt_27, wu_27, wa_27, wl_28, wt_28, wu_28, wa_28, we_1, we_3, we_10, we_14, we_15, we_16, we_17, we_18, we_20, we_21, we_22, we_24, we_25, we_26, we_27, we_28, we_30, we_31, we_32, wc_20, wc_21, wc_22, wc_24, wc_25, wc_26, wc_27, wc_3, wc_4, wc_7, wc_28, wc_32, ws_1, ws_2, ws_3, ws_4, ws_9, ws_10, ws_11, ws_14, ws_15, ws_16, ws_27, ws_17, ws_20, ws_28, kc_0, kc_1, kn_1, kc_2, kn_2, kc_3, kc_4, kc_5, kc_6, kc_7, kc_8, kc_9, kc_10, kc_12, kc_13, kc_14, kc_16, kc_17, kc_18, kc_19, kc_20, kc_21, kc_22, kc_24, kc_28, kc_30, kc_32, kc_37, kc_40, kc_41, kc_42, kc_43, kc_45, kc_48, kc_56, kc_57, kc_59, kc_60, kc_61, kc_64, kc_73, kc_78, kc_91, kc_95, kc_96, kc_97, kc_98, kc_99, kc_100, kc_112, kc_122, kc_125, kc_126, kc_150, kc_162, kc_163, kc_168, kc_186, kc_190, kc_200, kc_250, kc_255, kc_355, kc_356, kc_404, kc_405, kc_429, kc_573, kc_999, kc_1000, kc_1002, kc_1100, kc_1891, kc_2200, kc_4719, kc_4869, kc_4881, kc_5148, kc_9999, kn_9999, kc_10000, kc_12345, kc_19741, kc_25433, kc_65536, kc_320403, kc_628412, kc_629093, kc_660401, kc_679843, kc_918640, kc_979410, kc_1178088, kc_6232410, kc_24644941, kc_36238189, kc_38270444, kc_392531318, kc_425693491, kc_1103515245, kc_1342154595, kc_2147483648, kc_42328242873, kc_891704255789, kc_1722105685577, kc_1858726030364, ct_0, ct_1, ct_2, ct_3, ct_4, ct_5, cf_0, cf_1, cf_2, cf_3, cf_4, cf_5, w_ty6, w_ty7, m_sv, m_z0, m_hd, m_g0, m_gs, m_s0, m_ss, m_ap, m_an, forall_const, true_and, and_true, ne_eq, not_true_eq_false, not_false_eq_true, false_implies, true_implies, implies_true, eq_self, reduceCtorEq, Nat.reduceDiv, Nat.reduceMod, Int.reduceToNat, or_true, true_or, or_false, false_or, or_self, m_it, m_if, m_c1, m_01, m_02, m_03, m_04, m_10, m_12, m_13, m_14, m_20, m_21, m_23, m_24, m_30, m_31, m_32, m_34, m_40, m_41, m_42, m_43]
      rw [f5_w 182 3 (by decide), sb_w]
      simp only [Int.toNat_natCast]
      obtain ⟨t, z1, -, z3⟩ := c186 h6 (h6 183 j)
      refine ⟨fun hj => ⟨⟨by omega, by omega⟩, [t], h6, z1, fun ht => ?_, fun ht => ?_⟩, fun hj => ⟨fun _ => ⟨bm, bm, endT 4 v' j (by decide) (by decide) iv_w (fun z => absurd z (by decide)) (by omega) jS_w⟩, fun _ => ⟨bm, bm, endT 1 v' j (by decide) (by decide) iv_w (fun z => absurd z (by decide)) (by omega) jS_w⟩⟩⟩
      · have j1 : j32 ((j : Int) + 1) = ((j + 1 : Nat) : Int) := (j32_in ⟨by omega, by omega⟩).trans (by omega)
        rw [j1]
        obtain ⟨y, w1_w, w2_w⟩ := c188 h6 (h6 183 j)
        exact ⟨fun _ => ⟨⟨by omega, by omega⟩, [y], h6, w1_w, ⟨j + 1, _, rfl, by omega, by omega, lop_in 0 _ _, rfl⟩, by omega⟩, fun _ => ⟨⟨j + 1, v', rfl, by omega, by omega, iv_w, rfl⟩, by omega⟩⟩
      · have kj2 : k < j := by
          rcases Nat.lt_or_ge k j with z | z
          · exact z
          · have e : j = k := by omega
            subst e
            have c := f5_w 183 j (by decide)
            rw [← c] at x3
            exact absurd ht (z3.mpr (x3.mp hu))
        exact ⟨fun _ => ⟨bm, bm, endT 4 v' j (by decide) (by decide) iv_w (fun z => absurd z (by decide)) kj2 jS_w⟩, fun _ => ⟨bm, bm, endT 1 v' j (by decide) (by decide) iv_w (fun z => absurd z (by decide)) kj2 jS_w⟩⟩
    · refine w_lp (fun en h' => ∃ (j : Nat) (v' : Int), en = [182, (m : Int), (j : Int), H 183 k, (k : Int), v', w] ∧ k ≤ j ∧ j ≤ S ∧ (0 ≤ v' ∧ v' ≤ 9999 ∧ (j = k → v' ≤ 0) ∧ (j = k + 1 → v' ≤ 9) ∧ (j = k + 2 → v' ≤ 99) ∧ (j = k + 3 → v' ≤ 999)) ∧ h' = h5) (fun en _ => S - (en.getD 2 0).toNat) ⟨k, 0, rfl, by omega, by omega, ⟨by omega, by omega, fun _ => by omega, fun _ => by omega, fun _ => by omega, fun _ => by omega⟩, rfl⟩ ?_
      rintro en h6 ⟨j, v', rfl, kj, jS_w, ⟨v0_w, v9, d0_w, d1_w, d2_w, d3_w⟩, rfl⟩
      refine ⟨by show S - ((j : Int)).toNat < K; omega, ?_⟩
      have iv_w : InL v' := ⟨by omega, by omega⟩
      simp only [wf_4, wf_40, wf_5, wf_50, wf_6, wl_1, wt_1, wu_1, wa_1, wl_4, wt_4, wu_4, wa_4, wl_5, wt_5, wu_5, wa_5, wl_6, wt_6, wu_6, wa_6, wl_9, wt_9, wu_9, wa_9, wl_10, wt_10, wu_10, wa_10, wl_11, wt_11, wu_11, wa_11, wl_13, wt_13, wu_13, wa_13, wl_14, wt_14, wu_14, wa_14, wl_15, wt_15, wu_15, wa_15, wl_16, wt_16, wu_16, wa_16, wl_17, wt_17, wu_17, wa_17, wl_20, wt_20, wu_20, wa_20, wl_21, wt_21, wu_21, wa_21, wl_22, wt_22, wu_22, wa_22, wl_23, wt_23, wu_23, wa_23, wl_24, wt_24, wu_24, wa_24, wl_26, wt_26, wu_26, wa_26, wl_27, wt_27, wu_27, wa_27, wl_28, wt_28, wu_28, wa_28, we_1, we_3, we_10, we_14, we_15, we_16, we_17, we_18, we_20, we_21, we_22, we_24, we_25, we_26, we_27, we_28, we_30, we_31, we_32, wc_20, wc_21, wc_22, wc_24, wc_25, wc_26, wc_27, wc_3, wc_4, wc_7, wc_28, wc_32, ws_1, ws_2, ws_3, ws_4, ws_9, ws_10, ws_11, ws_14, ws_15, ws_16, ws_27, ws_17, ws_20, ws_28, kc_0, kc_1, kn_1, kc_2, kn_2, kc_3, kc_4, kc_5, kc_6, kc_7, kc_8, kc_9, kc_10, kc_12, kc_13, kc_14, kc_16, kc_17, kc_18, kc_19, kc_20, kc_21, kc_22, kc_24, kc_28, kc_30, kc_32, kc_37, kc_40, kc_41, kc_42, kc_43, kc_45, kc_48, kc_56, kc_57, kc_59, kc_60, kc_61, kc_64, kc_73, kc_78, kc_91, kc_95, kc_96, kc_97, kc_98, kc_99, kc_100, kc_112, kc_122, kc_125, kc_126, kc_150, kc_162, kc_163, kc_168, kc_186, kc_190, kc_200, kc_250, kc_255, kc_355, kc_356, kc_404, kc_405, kc_429, kc_573, kc_999, kc_1000, kc_1002, kc_1100, kc_1891, kc_2200, kc_4719, kc_4869, kc_4881, kc_5148, kc_9999, kn_9999, kc_10000, kc_12345, kc_19741, kc_25433, kc_65536, kc_320403, kc_628412, kc_629093, kc_660401, kc_679843, kc_918640, kc_979410, kc_1178088, kc_6232410, kc_24644941, kc_36238189, kc_38270444, kc_392531318, kc_425693491, kc_1103515245, kc_1342154595, kc_2147483648, kc_42328242873, kc_891704255789, kc_1722105685577, kc_1858726030364, ct_0, ct_1, ct_2, ct_3, ct_4, ct_5, cf_0, cf_1, cf_2, cf_3, cf_4, cf_5, w_ty6, w_ty7, m_sv, m_z0, m_hd, m_g0, m_gs, m_s0, m_ss, m_ap, m_an, forall_const, true_and, and_true, ne_eq, not_true_eq_false, not_false_eq_true, false_implies, true_implies, implies_true, eq_self, reduceCtorEq, Nat.reduceDiv, Nat.reduceMod, Int.reduceToNat, or_true, true_or, or_false, false_or, or_self, m_it, m_if, m_c1, m_01, m_02, m_03, m_04, m_10, m_12, m_13, m_14, m_20, m_21, m_23, m_24, m_30, m_31, m_32, m_34, m_40, m_41, m_42, m_43]
      rw [f5_w 182 3 (by decide), sb_w]
      simp only [Int.toNat_natCast]
      obtain ⟨t, z1, -, z3⟩ := c187 h6 (h6 183 j)
      have js : j_iop 1 (j : Int) (k : Int) = (j : Int) - (k : Int) := jsub (by omega) (by omega)
      rw [js]
      refine ⟨fun hj => ⟨⟨by omega, by omega⟩, [t], h6, z1, fun ht => ?_, fun ht => ?_⟩, fun hj => ⟨fun _ => ⟨bm, bm, endT 4 v' j (by decide) (by decide) iv_w (fun z => absurd z (by decide)) (by omega) jS_w⟩, fun _ => ⟨bm, bm, endT 2 v' j (by decide) (by decide) iv_w (fun _ => ⟨v0_w, v9⟩) (by omega) jS_w⟩⟩⟩
      · have j1 : j32 ((j : Int) + 1) = ((j + 1 : Nat) : Int) := (j32_in ⟨by omega, by omega⟩).trans (by omega)
        rw [j1]
        obtain ⟨g0, g1⟩ := z3.mp ht
        have el : j_lop 1 (j_lop 0 (j_lop 2 10 v') (j_un 2 (h6 183 j))) 48 = 10 * v' + h6 183 j - 48 := by
          show j64 (j64 (j64 (10 * v') + h6 183 j) - 48) = _
          rw [j64_in (v := 10 * v') ⟨by omega, by omega⟩, j64_in (v := 10 * v' + h6 183 j) ⟨by omega, by omega⟩, j64_in (v := 10 * v' + h6 183 j - 48) ⟨by omega, by omega⟩]
        rw [el]
        exact ⟨fun hd_w => ⟨⟨by omega, by omega⟩, ⟨j + 1, _, rfl, by omega, by omega, ⟨by omega, by omega, fun _ => by omega, fun _ => by omega, fun _ => by omega, fun _ => by omega⟩, rfl⟩, by omega⟩, fun hd_w => ⟨⟨j + 1, v', rfl, by omega, by omega, ⟨v0_w, v9, fun _ => by omega, fun _ => by omega, fun _ => by omega, fun _ => by omega⟩, rfl⟩, by omega⟩⟩
      · have kj2 : k < j := by
          rcases Nat.lt_or_ge k j with z | z
          · exact z
          · have e : j = k := by omega
            subst e
            have c := f5_w 183 j (by decide)
            rw [← c] at y3
            exact absurd ht (z3.mpr (y3.mp hu2))
        exact ⟨fun _ => ⟨bm, bm, endT 4 v' j (by decide) (by decide) iv_w (fun z => absurd z (by decide)) kj2 jS_w⟩, fun _ => ⟨bm, bm, endT 2 v' j (by decide) (by decide) iv_w (fun _ => ⟨v0_w, v9⟩) kj2 jS_w⟩⟩
    · obtain ⟨t, z1, -⟩ := c189 h5 (H 183 k)
      have iv_w : InL (j_un 2 (H 183 k)) := by
        rw [← f5_w 183 k (by decide)]
        have := ht_int q5_w.1 (q := 183) (by decide) k
        unfold InI at this
        exact ⟨by show _ ≤ h5 183 k; omega, by show h5 183 k < _; omega⟩
      exact ⟨[t], h5, z1, fun _ => ⟨bm, bm, endT 3 _ (k + 1) (by decide) (by decide) iv_w (fun z => absurd z (by decide)) (by omega) (by omega)⟩, fun _ => ⟨bm, bm, endT 4 _ (k + 1) (by decide) (by decide) iv_w (fun z => absurd z (by decide)) (by omega) (by omega)⟩⟩
  · rw [Int.toNat_natCast, up_ne (fun z => absurd z.1 (by decide)), f2_w 182 3 (by decide), sb_w]
    have q3_w := tw_4 q2_w (i := m) (v := 0) (by decide) (by decide)
    have q4_w := tw_5 q3_w (i := m) (v := (S : Int)) (by omega) (by omega)
    have q5_w := (fd_QK q4_w rj_js (k := 7) (v := 0) (Or.inl rfl) (IV.top in_0)).1
    have q6_w := (fd_QK q5_w rj_js (k := 8) (v := 0) (Or.inl rfl) (IV.top in_0)).1
    have e8 : j_up (j_up (j_up (j_up h2 184 m 0) 185 m (S : Int)) 182 7 0) 182 8 0 182 8 = 0 := up_eq
    have e7_w : j_up (j_up (j_up (j_up h2 184 m 0) 185 m (S : Int)) 182 7 0) 182 8 0 182 7 = 0 := (up_ne (fun z => absurd z.2 (by decide))).trans up_eq
    have o : ∀ o i : Nat, (o = 182 → i ≠ 7 ∧ i ≠ 8) → (o = 184 → i ≠ m) → o ≠ 185 → j_up (j_up (j_up (j_up h2 184 m 0) 185 m (S : Int)) 182 7 0) 182 8 0 o i = h2 o i := fun o i z1 z2 z3 => by
      rw [up_ne (fun z => (z1 z.1).2 z.2), up_ne (fun z => (z1 z.1).1 z.2), up_ne (fun z => z3 z.1), up_ne (fun z => z2 z.1 z.2)]
    have e4_w : j_up (j_up (j_up (j_up h2 184 m 0) 185 m (S : Int)) 182 7 0) 182 8 0 184 m = 0 := by
      rw [up_ne (fun z => absurd z.1 (by decide)), up_ne (fun z => absurd z.1 (by decide)), up_ne (fun z => absurd z.1 (by decide)), up_eq]
    have fr : ∀ o' k : Nat, (o' = 182 → k ≠ 2 ∧ k ≠ 3 ∧ k ≠ 7 ∧ k ≠ 8) → (o' ≠ 184 ∧ o' ≠ 185 ∧ o' ≠ 186) → j_up (j_up (j_up (j_up h2 184 m 0) 185 m (S : Int)) 182 7 0) 182 8 0 o' k = h o' k := fun o' k z1 z2 => (o o' k (fun z => (z1 z).2.2) (fun z => absurd z z2.1) z2.2.1).trans ((f2_w o' k z2).trans (fb o' k z1))
    have e12_w := fr 182 12 (fun _ => by decide) (by decide)
    refine ⟨⟨by omega, by omega⟩, ⟨by omega, by omega⟩, rfl, m, ⟨q6_w, ⟨by omega, by omega, by omega, by omega, e4_w, by omega, by omega, fun i hi_w hs => ?_⟩, ?_⟩, e7_w, fr⟩
    · rw [o 184 i (fun z => absurd z (by decide)) (fun _ => by omega) (by decide)] at hs
      rw [o 186 i (fun z => absurd z (by decide)) (fun z => absurd z (by decide)) (by decide)]
      exact v2 i hi_w hs
    · exact DG.up hQ hD (fr 188 96 (fun z => absurd z (by decide)) (by decide)) (fr 188 98 (fun z => absurd z (by decide)) (by decide)) (fun i _ => fr 188 _ (fun z => absurd z (by decide)) (by decide)) (fun i _ => fr 188 _ (fun z => absurd z (by decide)) (by decide))
end PARO
end
section
/-! ===== a tree that asks_w nothing_w of the script_w answers_w the same, whatever the script_w is_w ===== -/
def n_s1 (t : Nat) : SX → Bool
  | .op _ (.op b c) => !((t == 7 && sx_n c == 1) || (t == 10 && sx_n c == 1) || (t == 32 && sx_n b == 332) || (t == 34 && sx_n c == 332) || (t == 24 && sx_n c == 332))
  | _ => true
def n_scr : SX → Bool
  | .var _ => true
  | .op (.var t) r => n_s1 t r && n_scr r
  | .op x y => n_scr x && n_scr y
section SCR
variable {xs ys : Nat → Int} {L L' K : Nat} {ck : Nat → List Nat} {F F' : XP} {cW : Nat → Nat → Int}
theorem ns_op : ∀ {x y : SX}, n_scr (.op x y) = true → n_scr x = true ∧ n_scr y = true
  | .var t, y, h => by
    unfold n_scr at h
    rw [Bool.and_eq_true] at h
    exact ⟨rfl, h.2⟩
  | .op u v, y, h => by
    unfold n_scr at h
    rwa [Bool.and_eq_true] at h
theorem ns_nd {t : Nat} {a b c : SX} (h : n_scr (.op (.var t) (.op a (.op b c))) = true) : (n_scr a = true ∧ n_scr b = true ∧ n_scr c = true) ∧ (t = 7 → sx_n c ≠ 1) ∧ (t = 10 → sx_n c ≠ 1) ∧ (t = 32 → sx_n b ≠ 332) ∧ (t = 34 → sx_n c ≠ 332) ∧ (t = 24 → sx_n c ≠ 332) := by
  have h1 := (ns_op h).2
  have h2 := ns_op h1
  have h3 := ns_op h2.2
  unfold n_scr at h
  rw [Bool.and_eq_true] at h
  have k := h.1
  unfold n_s1 at k
  simp only [Bool.not_eq_true', Bool.or_eq_false_iff, Bool.and_eq_false_iff, beq_eq_false_iff_ne, ne_eq] at k
  refine ⟨⟨h2.1, h3.1, h3.2⟩, ?_, ?_, ?_, ?_, ?_⟩ <;> intro e <;> intro e2_w <;> omega
theorem ns_al {k : Nat} (hk : k ≠ 1) {A B : XE} : n_aload xs L k A B = n_aload ys L' k A B := by
  unfold n_aload
  match k, hk with
  | 0, _ => rfl
  | 1, h => exact absurd rfl h
  | k + 2, _ => rfl
theorem ns_ln {k : Nat} (hk : k ≠ 1) {A : XE} : n_alen L k A = n_alen L' k A := by
  unfold n_alen
  match k, hk with
  | 0, _ => rfl
  | 1, h => exact absurd rfl h
  | k + 2, _ => rfl
theorem ns_E (hF : ∀ f, f ≠ 332 → F f = F' f) : ∀ t : SX, n_scr t = true → evE xs L ck F cW t = evE ys L' ck F' cW t
  | .op (.var t) (.op a (.op b c)), h => by
    obtain ⟨⟨ha_w, hb_w, hc_w⟩, h7, h10, h32, h34, -⟩ := ns_nd h
    show nodeE xs L ck F cW t a b c (evE xs L ck F cW a) (evE xs L ck F cW b) (evE xs L ck F cW c) = nodeE ys L' ck F' cW t a b c (evE ys L' ck F' cW a) (evE ys L' ck F' cW b) (evE ys L' ck F' cW c)
    rw [ns_E hF a ha_w, ns_E hF b hb_w, ns_E hF c hc_w]
    unfold nodeE
    split
    case h_5 => exact ns_al (h7 rfl)
    case h_6 => exact ns_ln (h10 rfl)
    case h_24 =>
      unfold n_call
      rw [hF _ (h32 rfl)]
    case h_25 =>
      unfold n_new
      rw [hF _ (h34 rfl)]
    all_goals rfl
  | .var _, _ => rfl
  | .op (.op _ _) _, _ => rfl
  | .op (.var _) (.var _), _ => rfl
  | .op (.var _) (.op _ (.var _)), _ => rfl
theorem ns_S (hF : ∀ f, f ≠ 332 → F f = F' f) : ∀ t : SX, n_scr t = true → evS xs L ck F K cW t = evS ys L' ck F' K cW t
  | .op (.var t) (.op a (.op b c)), h => by
    obtain ⟨⟨ha_w, hb_w, hc_w⟩, h7, h10, h32, h34, h24⟩ := ns_nd h
    show nodeS xs L ck F K cW t a b c (evS xs L ck F K cW a) (evS xs L ck F K cW b) (evS xs L ck F K cW c) = nodeS ys L' ck F' K cW t a b c (evS ys L' ck F' K cW a) (evS ys L' ck F' K cW b) (evS ys L' ck F' K cW c)
    rw [ns_S hF a ha_w, ns_S hF b hb_w, ns_S hF c hc_w]
    have ea := ns_E (xs := xs) (ys := ys) (L := L) (L' := L') (ck := ck) (cW := cW) hF a ha_w
    have eb := ns_E (xs := xs) (ys := ys) (L := L) (L' := L') (ck := ck) (cW := cW) hF b hb_w
    have ec : ∀ u v, c = .op u v → evE xs L ck F cW v = evE ys L' ck F' cW v := fun u v e => ns_E hF v (ns_op (e ▸ hc_w)).2
    unfold nodeS
    dsimp only
    rw [ea, eb]
    split
    case h_7 =>
      split
      · rw [ec _ _ rfl]
      · rfl
    case h_8 =>
      split
      · rw [ec _ _ rfl]
      · rfl
    case h_25 =>
      unfold s_try
      rw [hF _ (h24 rfl)]
    all_goals rfl
  | .var _, _ => rfl
  | .op (.op _ _) _, _ => rfl
  | .op (.var _) (.var _), _ => rfl
  | .op (.var _) (.op _ (.var _)), _ => rfl
theorem ns_F {M : Nat → XM} (hM_w : ∀ f, f ≠ 332 → n_scr (M f).2.2.2.2 = true) : ∀ n f, f ≠ 332 → evF xs L ck K cW M n f = evF ys L' ck K cW M n f
  | 0, _, _ => rfl
  | n + 1, f, hf => by
    unfold evF
    rw [ns_S (ns_F hM_w n) _ (hM_w f hf)]
def g_nsc (f : Nat) : Bool := Nat.beq f 332 || n_scr (g_M f).2.2.2.2
theorem g_nsc_ok : (List.range 352).all g_nsc = true := by decide +kernel
theorem g_nsM : ∀ f, f ≠ 332 → n_scr (g_M f).2.2.2.2 = true := fun f hf => by
  by_cases h : f < 352
  · have k := List.all_eq_true.mp g_nsc_ok f (List.mem_range.mpr h)
    rw [g_nsc, Bool.or_eq_true] at k
    rcases k with k | k
    · exact absurd (Nat.eq_of_beq_eq_true k) hf
    · exact k
  · have e : g_M f = (0, 0, [], [], .var 0) := by
      unfold g_M
      exact t_out (by show 352 ≤ f; omega)
    rw [e]
    rfl
end SCR
end
section
/-! ===== the law's loop_w, whatever it is_w that lasts from call to call ===== -/
def lwE (i s t : Int) : List Int := [0, 0, 182, 203, i, s, t]
def sA (j : Nat) : SX := sx 7 (sx 3 z0 z0 z0) (sx 14 (sx 3 (sv 4) z0 z0) (sx 1 (sv j) (sv 1) z0) z0) (sv 1)
def sB (j : Nat) : SX := sx 21 (sA j) z0 (sv 1)
def StepOK (xs : Nat → Int) (L K : Nat) (F : XP) (I : XH → Prop) (B : SX) (i : Int) : Prop := ∀ (s t : Int) (c d : Nat) (h : XH), I h → ∃ (s' t' : Int) (c' d' : Nat) (h' : XH), evS xs L g_ck F K g_cW B (lwE i s t) ((a_g3, c, d), h) = some (2, [], lwE i s' t', ((a_g3, c', d'), h')) ∧ I h' ∧ c' ≤ c + 1 ∧ d' ≤ d + 6
def CaseOK (xs : Nat → Int) (L K : Nat) (F : XP) (I : XH → Prop) (B : SX) (i : Int) : Prop := ∀ (z s t : Int) (c d : Nat) (h : XH), I h → ∃ (s' t' : Int) (c' d' : Nat) (h' : XH), evS xs L g_ck F K g_cW B (z :: lwE i s t) ((a_g3, c, d), h) = some (2, [], lwE i s' t', ((a_g3, c', d'), h')) ∧ I h' ∧ c' ≤ c + 1 ∧ d' ≤ d + 6
section LAWL
variable {xs : Nat → Int} {L K : Nat} {F : XP} {I : XH → Prop} {i s t : Int}
theorem es_14 {ck : Nat → List Nat} {cW : Nat → Nat → Int} {a b c : SX} : evS xs L ck F K cW (sx 14 a b c) = fun en st => some (2, [], en, st) := rfl
theorem es_24 {ck : Nat → List Nat} {cW : Nat → Nat → Int} {a b c : SX} : evS xs L ck F K cW (sx 24 a b c) = s_try F (sx_n c) (evE xs L ck F cW a) (evE xs L ck F cW b) := rfl
theorem case_cons {l B C : SX} (hB_w : StepOK xs L K F I B i) (hC : CaseOK xs L K F I C i) : CaseOK xs L K F I (sx 25 l B C) i := by
  intro z s t c d h hI
  rw [es_25]
  by_cases e : (sx_l l).any (fun n => decide ((z :: lwE i s t).headD 0 = sx_z n)) = true
  · obtain ⟨s', t', c', d', h', e1_w, e2_w⟩ := hB_w s t c d h hI
    refine ⟨s', t', c', d', h', (if_pos e).trans ?_, e2_w⟩
    show (evS xs L g_ck F K g_cW B (lwE i s t) ((a_g3, c, d), h)).bind _ = _
    rw [e1_w]
    rfl
  · obtain ⟨s', t', c', d', h', e1_w, e2_w⟩ := hC z s t c d h hI
    exact ⟨s', t', c', d', h', (if_neg e).trans e1_w, e2_w⟩
theorem case_nil {a b : SX} : CaseOK xs L K F I (sx 26 (sx 14 z0 z0 z0) a b) i := fun _ s t c d h hI => ⟨s, t, c, d, h, rfl, hI, by omega, by omega⟩
theorem lw_s5 {v : Int} : (lwE i s t).set 5 v = lwE i v t := rfl
theorem lw_s6 {v : Int} : (lwE i s t).set 6 v = lwE i s v := rfl
theorem j32_id {x : Int} (h0 : -2147483648 ≤ x) (h1 : x ≤ 2147483647) : j32 x = x := j32_in ⟨h0, by omega⟩
theorem sA_ev {st : XT} (hL : (L : Int) ≤ 2147483647) (h0 : 0 ≤ i) (h1 : i + 7 ≤ (L : Int)) (j : Nat) (hj : j ≤ 6) : evE xs L g_ck F g_cW (sA j) (lwE i s t) st = some ([xs (i + (j : Int)).toNat], st) := by
  have e1_w : evE xs L g_ck F g_cW (sx 14 (sx 3 (sv 4) z0 z0) (sx 1 (sv j) (sv 1) z0) z0) (lwE i s t) st = some ([i + (j : Int)], st) := by
    rw [ee_14, ee_3, ee_1]
    unfold n_bin
    show some ([j_iop 0 i (j : Int)], st) = _
    rw [show j_iop 0 i (j : Int) = j32 (i + (j : Int)) from rfl, j32_id (by omega) (by omega)]
  unfold sA
  rw [ee_7]
  unfold n_aload
  rw [ee_3]
  show ((evE xs L g_ck F g_cW (sx 14 (sx 3 (sv 4) z0 z0) (sx 1 (sv j) (sv 1) z0) z0) (lwE i s t) st).bind fun y => if 0 ≤ j_hd y.1 ∧ j_hd y.1 < (L : Int) then some ([xs (j_hd y.1).toNat], y.2) else none) = _
  rw [e1_w, Option.bind_some]
  exact if_pos ⟨show 0 ≤ i + (j : Int) by omega, show i + (j : Int) < (L : Int) by omega⟩
theorem sB_ev {st : XT} (hL : (L : Int) ≤ 2147483647) (h0 : 0 ≤ i) (h1 : i + 7 ≤ (L : Int)) (j : Nat) (hj : j ≤ 6) : evE xs L g_ck F g_cW (sB j) (lwE i s t) st = some ([j_b (j_cmp 1 (xs (i + (j : Int)).toNat) 0)], st) := by
  unfold sB
  rw [ee_21]
  show (evE xs L g_ck F g_cW (sA j) (lwE i s t) st).bind _ = _
  rw [sA_ev hL h0 h1 j hj]
  rfl
/-- the arguments of a call: what they are, whatever the state_w is_w -/
def ArgE (xs : Nat → Int) (L : Nat) (F : XP) (A : SX) (i : Int) (vs : List Int) : Prop := ∀ (s t : Int) (st : XT), evE xs L g_ck F g_cW A (lwE i s t) st = some (vs, st)
theorem arg_nil : ArgE xs L F (sx 31 z0 z0 z0) i [] := fun _ _ _ => rfl
theorem arg_cons {a A : SX} {v : Int} {vs : List Int} (ha_w : ∀ (s t : Int) (st : XT), evE xs L g_ck F g_cW a (lwE i s t) st = some ([v], st)) (hA : ArgE xs L F A i vs) : ArgE xs L F (sx 30 a A z0) i (v :: vs) := fun s t st => by
  rw [ee_30]
  show ((evE xs L g_ck F g_cW a (lwE i s t) st).bind _) = _
  rw [ha_w, Option.bind_some, hA, Option.bind_some]
  rfl
theorem arg_x {A : SX} {vs : List Int} (hA : ArgE xs L F A i vs) : ArgE xs L F (sx 30 (sx 3 (sv 1) z0 z0) A z0) i (0 :: vs) := arg_cons (fun _ _ _ => rfl) hA
theorem arg_m {A : SX} {vs : List Int} (hA : ArgE xs L F A i vs) : ArgE xs L F (sx 30 (sx 3 (sv 2) z0 z0) A z0) i (182 :: vs) := arg_cons (fun _ _ _ => rfl) hA
theorem arg_o : ArgE xs L F (sx 30 (sx 3 (sv 3) z0 z0) (sx 31 z0 z0 z0) z0) i [203] := arg_cons (fun _ _ _ => rfl) arg_nil
/-- a call of both_w, nothing_w held_w against the other_w -/
theorem step_1 {A B : SX} {f r : Nat} {vs ws_w : List Int} (hA : ArgE xs L F A i vs) (hB_w : ArgE xs L F B i ws_w) (hP : ∀ (c d : Nat) (h : XH), I h → ∃ (v1_w v2 : List Int) (h1 h2 : XH), F f vs ((a_g3, c, d), h) = some (1, v1_w, ((a_g3, c, d), h1)) ∧ F r ws_w ((a_g3, c, d), h1) = some (1, v2, ((a_g3, c, d), h2)) ∧ I h2) :
    StepOK xs L K F I (sx 2 (sx 9 (sx 32 A (sv f) z0) z0 z0) (sx 2 (sx 9 (sx 32 B (sv r) z0) z0 z0) (sx 14 z0 z0 z0) z0) z0) i := by
  intro s t c d h hI
  obtain ⟨v1_w, v2, h1, h2, e1_w, e2_w, e3_w⟩ := hP c d h hI
  refine ⟨s, t, c, d, h2, ?_, e3_w, by omega, by omega⟩
  have a1_w := hA s t ((a_g3, c, d), h)
  have a2 := hB_w s t ((a_g3, c, d), h1)
  simp only [es_2, s_seq, es_9, ee_32, n_call, n_sv, a1_w, a2, Option.bind_some, e1_w, e2_w, if_true, es_14]
/-- a call of the class by one that catches, and of the reference_w -/
theorem step_2 {A B : SX} {f r : Nat} {vs ws_w : List Int} (hA : ArgE xs L F A i vs) (hB_w : ArgE xs L F B i ws_w) (hP : ∀ (c d : Nat) (h : XH), I h → ∃ (v1_w v2 : List Int) (c' d' : Nat) (h1 h2 : XH), F f vs ((a_g3, c, d), h) = some (1, v1_w, ((a_g3, c', d'), h1)) ∧ F r ws_w ((a_g3, c', d'), h1) = some (1, v2, ((a_g3, c', d'), h2)) ∧ I h2 ∧ c' ≤ c + 1 ∧ d' ≤ d + 6) :
    StepOK xs L K F I (sx 2 (sx 20 (sx 2 (sx 3 (sv 5) (sx 32 A (sv f) z0) z0) (sx 3 (sv 6) (sx 32 B (sv r) z0) z0) z0) z0 z0) (sx 14 z0 z0 z0) z0) i := by
  intro s t c d h hI
  obtain ⟨v1_w, v2, c', d', h1, h2, e1_w, e2_w, e3_w, e4_w, e5_w⟩ := hP c d h hI
  refine ⟨j_hd v1_w, j_hd v2, c', d', h2, ?_, e3_w, e4_w, e5_w⟩
  have a1_w := hA s t ((a_g3, c, d), h)
  have a2 := hB_w (j_hd v1_w) t ((a_g3, c', d'), h1)
  simp only [es_2, s_seq, es_3, es_20, ee_32, n_call, lw_s5, lw_s6, n_sv, a1_w, a2, Option.bind_some, e1_w, e2_w, if_true, es_14]
theorem lw_cond {a : SX} {st : XT} (hL : (L : Int) ≤ 2147483647) : evE xs L g_ck F g_cW fwC (lwE i s t) st = some ([j_b (decide (i ≤ (L : Int) - 7))], st) := by
  unfold fwC
  rw [ee_20, ee_14, ee_3, ee_10, ee_1]
  unfold n_cmp n_bin n_alen
  show some ([j_b (j_cmp 5 i (j_iop 1 (L : Int) 7))], st) = _
  rw [show j_iop 1 (L : Int) 7 = j32 ((L : Int) - 7) from rfl, j32_id (by omega) (by omega)]
  rfl
theorem lw_sel {st : XT} (hL : (L : Int) ≤ 2147483647) (h0 : 0 ≤ i) (h1 : i + 7 ≤ (L : Int)) : evE xs L g_ck F g_cW fwS (lwE i s t) st = some ([j_iop 3 (xs i.toNat) 63], st) := by
  have e1_w : evE xs L g_ck F g_cW (sx 7 (sx 3 z0 z0 z0) (sx 3 (sv 4) z0 z0) (sv 1)) (lwE i s t) st = some ([xs i.toNat], st) := by
    rw [ee_7]
    unfold n_aload
    rw [ee_3, ee_3]
    exact if_pos ⟨h0, show i < (L : Int) by omega⟩
  unfold fwS
  rw [ee_14]
  unfold n_bin
  rw [e1_w]
  rfl
theorem lw_step {st : XT} (h0 : 0 ≤ i) (h1 : i + 7 ≤ 2147483647) : evS xs L g_ck F K g_cW fwP (lwE i s t) st = some (0, [], lwE (i + 7) s t, st) := by
  unfold fwP
  rw [es_4]
  show some (0, [], lwE (j32 (i + 7)) s t, st) = _
  rw [j32_id (by omega) (by omega)]
theorem lw_body {C : SX} (hL : (L : Int) ≤ 2147483647) (h0 : 0 ≤ i) (h1 : i + 7 ≤ (L : Int)) (hC : CaseOK xs L K F I C i) {c d : Nat} {h : XH} (hI : I h) : ∃ (s' t' : Int) (c' d' : Nat) (h' : XH), evS xs L g_ck F K g_cW (sx 20 (sx 19 fwS C z0) z0 z0) (lwE i s t) ((a_g3, c, d), h) = some (0, [], lwE i s' t', ((a_g3, c', d'), h')) ∧ I h' ∧ c' ≤ c + 1 ∧ d' ≤ d + 6 := by
  obtain ⟨s', t', c', d', h', e1_w, e2_w⟩ := hC (j_iop 3 (xs i.toNat) 63) s t c d h hI
  refine ⟨s', t', c', d', h', ?_, e2_w⟩
  rw [es_20, es_19]
  unfold s_sw
  rw [lw_sel hL h0 h1, Option.bind_some]
  show ((evS xs L g_ck F K g_cW C (j_iop 3 (xs i.toNat) 63 :: lwE i s t) ((a_g3, c, d), h)).bind _) = _
  rw [e1_w]
  rfl
theorem lw_loop {C : SX} (hL : (L : Int) ≤ 2147483640) (hC : ∀ i : Int, 0 ≤ i → i + 7 ≤ (L : Int) → CaseOK xs L K F I C i) : ∀ (m fuel : Nat) (i s t : Int) (c d : Nat) (h : XH), 0 ≤ i → (L : Int) < i + 7 * (m : Int) + 7 → m + 1 ≤ fuel → I h →
    ∃ (i' s' t' : Int) (c' d' : Nat) (h' : XH), s_loop (evE xs L g_ck F g_cW fwC) (evS xs L g_ck F K g_cW (sx 20 (sx 19 fwS C z0) z0 z0)) (evS xs L g_ck F K g_cW fwP) fuel (lwE i s t) ((a_g3, c, d), h) = some (0, [], lwE i' s' t', ((a_g3, c', d'), h')) ∧ I h' ∧ c' ≤ c + m ∧ d' ≤ d + 6 * m
  | m, fuel, i, s, t, c, d, h, h0, hm_w, hf, hI => by
    obtain ⟨fuel, rfl⟩ : ∃ k, fuel = k + 1 := ⟨fuel - 1, by omega⟩
    unfold s_loop
    rw [lw_cond (a := z0) (by omega), Option.bind_some]
    by_cases e : i ≤ (L : Int) - 7
    · match m, hm_w, hf with
      | 0, hm_w, _ => exact absurd e (by omega)
      | m + 1, hm_w, hf =>
        obtain ⟨s1_w, t1_w, c1_w, d1_w, h1, e1_w, e2_w, e3_w, e4_w⟩ := lw_body (K := K) (s := s) (t := t) (c := c) (d := d) (by omega) h0 (by omega) (hC i h0 (by omega)) hI
        obtain ⟨i2_w, s2_w, t2_w, c2, d2_w, h2, f1_w, f2_w, f3_w, f4_w⟩ := lw_loop hL hC m fuel (i + 7) s1_w t1_w c1_w d1_w h1 (by omega) (by omega) (by omega) e2_w
        refine ⟨i2_w, s2_w, t2_w, c2, d2_w, h2, ?_, f2_w, by omega, by omega⟩
        rw [decide_eq_true e]
        refine (if_neg (show ¬ (1 : Int) = 0 by decide)).trans ?_
        show ((evS xs L g_ck F K g_cW (sx 20 (sx 19 fwS C z0) z0 z0) (lwE i s t) ((a_g3, c, d), h)).bind _) = _
        rw [e1_w, Option.bind_some]
        refine (if_pos (Or.inl rfl)).trans ?_
        show ((evS xs L g_ck F K g_cW fwP (lwE i s1_w t1_w) ((a_g3, c1_w, d1_w), h1)).bind _) = _
        rw [lw_step h0 (by omega), Option.bind_some]
        exact (if_pos rfl).trans f1_w
    · refine ⟨i, s, t, c, d, h, ?_, hI, by omega, by omega⟩
      rw [decide_eq_false e]
      exact if_pos rfl
/-- the law_w behind_w its first three_w statements -/
theorem lw_end {C : SX} {m : Nat} (hL : (L : Int) ≤ 2147483640) (hm_w : L < 7 * m + 7) (hK_w : m + 1 ≤ K) (hC : ∀ i : Int, 0 ≤ i → i + 7 ≤ (L : Int) → CaseOK xs L K F I C i) {c d : Nat} {h : XH} (hI : I h) :
    ∃ (en' : List Int) (c' d' : Nat) (h' : XH), evS xs L g_ck F K g_cW (sx 2 (sx 20 (sx 2 (sx 3 (sv 4) (sx 1 z0 (sv 1) z0) z0) (sx 12 fwC (sx 20 (sx 19 fwS C z0) z0 z0) fwP) z0) z0 z0) (sx 27 (sx 1 (sv 1) (sv 1) z0) z0 z0) z0) (lwE 0 0 0) ((a_g3, c, d), h) = some (1, [1], en', ((a_g3, c', d'), h')) ∧ c' ≤ c + m ∧ d' ≤ d + 6 * m := by
  obtain ⟨i', s', t', c', d', h', e1_w, e2_w, e3_w, e4_w⟩ := lw_loop (K := K) hL hC m K 0 0 0 c d h (by omega) (by omega) hK_w hI
  refine ⟨lwE i' s' t', c', d', h', ?_, e3_w, e4_w⟩
  rw [es_2, es_20, es_2, es_3, es_12, es_27, ee_1, ee_1]
  unfold s_seq
  show (((s_loop (evE xs L g_ck F g_cW fwC) (evS xs L g_ck F K g_cW (sx 20 (sx 19 fwS C z0) z0 z0)) (evS xs L g_ck F K g_cW fwP) K (lwE 0 0 0) ((a_g3, c, d), h)).bind _)) = _
  rw [e1_w]
  rfl
end LAWL
end
section
/-! ===== what lasts from call to call, in both_w ===== -/
/-- the link and the reference's side_w -/
def Inv0 (h : XH) : Prop := Lnk h ∧ LQ h
section INV
variable {xs : Nat → Int} {L K n : Nat} {c d : Nat} {h h' h1 h2 : XH}
theorem ra_out {q : Nat} (hq : 203 ≤ q) : r_A q = (0, 0, []) := by
  unfold r_A
  rw [show Nat.ble 183 q = true from Nat.ble_eq.mpr (by omega)]
  rw [cond_true]
  rw [List.getD_eq_getElem?_getD, List.getElem?_eq_none (by have : r_As.length = 20 := rfl; omega)]
  rfl
/-- the reference's side_w asks_w for_w its own_w cells_w alone_w -/
theorem LQ.kp (hH : HT g_fk a_g3 h') (hk : ∀ o k : Nat, 182 ≤ o → o < 203 → h' o k = h o k) (hq : LQ h) : LQ h' := by
  obtain ⟨P, hQ, hD, h0, h1⟩ := hq
  have eo : ∀ o : Nat, 182 ≤ o → o < 203 → h' o = h o := fun o a b => funext fun k => hk o k a b
  refine ⟨P, ⟨hH, fun k => ?_, fun q hq => ?_, ?_⟩, ?_, ?_, ?_⟩
  · rw [hk 182 k (by decide) (by decide)]
    exact hQ.2.1 k
  · by_cases hi_w : q < 203
    · rw [eo q (by omega) hi_w]
      exact hQ.2.2.1 q hq
    · intro r hr
      have e : qA (r_T 0) q = (0, 0, []) := ra_out (by omega)
      rw [e] at hr
      cases hr
  · have hj := hQ.2.2.2
    unfold RJ at hj ⊢
    rw [eo 188 (by decide) (by decide), eo 189 (by decide) (by decide), eo 191 (by decide) (by decide)]
    exact hj
  · unfold DG
    rw [eo 188 (by decide) (by decide)]
    exact hD
  · rw [hk 182 12 (by decide) (by decide)]
    exact h0
  · rw [hk 182 12 (by decide) (by decide)]
    exact h1
def r_nf (r : Nat) : Bool := m_in r && !(m_W r).1.contains 2 && !(m_W r).1.contains 12 && !(m_W r).2.contains 182 && !(m_W r).2.contains 2
/-- a call of the reference_w behind_w its parser -/
theorem ref_inv (hK2 : 20000000000 ≤ K) (hn : n < 99999) {r : Nat} (hd_w : r_dp r < n) (hf : r_nf r = true) {vs : List Int} (hv : ∀ P, IL P (qP (r_T 0) r) (182 :: vs)) (hI : Inv0 h) : ∃ v h', evF xs L g_ck K g_cW g_M n r (182 :: vs) ((a_g3, c, d), h) = some (1, v, ((a_g3, c, d), h')) ∧ Inv0 h' ∧ Fr (m_W r) h h' := by
  obtain ⟨⟨hH, m0_w, m1_w, hm_w⟩, P, hQ, hD, k0_w, k1_w⟩ := hI
  simp only [r_nf, Bool.and_eq_true, Bool.not_eq_true'] at hf
  obtain ⟨⟨⟨⟨f1_w, f2_w⟩, f3_w⟩, f4_w⟩, f5_w⟩ := hf
  obtain ⟨v, h', e1_w, e2_w, e3_w, -, -⟩ := r_ref (P := P) (g := (c, d)) (xs := xs) (L := L) (ck := g_ck) (cW := g_cW) hK2 hd_w hn (182 :: vs) h hQ (hv P)
  obtain ⟨-, fr⟩ := fr_all n r (182 :: vs) _ _ _ _ _ _ f1_w rfl (Or.inr rfl) e1_w
  have q2_w : h' 182 2 = h 182 2 := fr 182 2 (fun _ => f2_w) f4_w
  have q12_w : h' 182 12 = h 182 12 := fr 182 12 (fun _ => f3_w) f4_w
  have qt : h' 2 1 = h 2 1 := fr 2 1 (fun z => absurd z (by decide)) f5_w
  refine ⟨v, h', e1_w, ⟨⟨e2_w.1, by rw [qt]; exact m0_w, by rw [qt]; exact m1_w, by rw [q2_w, qt]; exact hm_w⟩, P, e2_w, ?_, by rw [q12_w]; exact k0_w, by rw [q12_w]; exact k1_w⟩, fr⟩
  have e8 : h' 188 = h 188 := funext fun k => e3_w 188 k rfl
  unfold DG
  rw [e8]
  exact hD
/-- a call of both_w -/
theorem pair_inv (hK2 : 20000000000 ≤ K) (hn : n < 99999) {f r : Nat} (hd_w : g_dp f < n) (ht : g_THR f = false) (hr : r_dp r < n) (hf : r_nf r = true) {vs ws_w : List Int} (ha_w : VL (fun _ => 0) a_g3 ((g_T 0).2.1 f) vs) (hv : ∀ P, IL P (qP (r_T 0) r) (182 :: ws_w)) (hI : Inv0 h) : ∃ (v1_w v2 : List Int) (h1 h2 : XH), evF xs L g_ck K g_cW g_M n f vs ((a_g3, c, d), h) = some (1, v1_w, ((a_g3, c, d), h1)) ∧ evF xs L g_ck K g_cW g_M n r (182 :: ws_w) ((a_g3, c, d), h1) = some (1, v2, ((a_g3, c, d), h2)) ∧ Inv0 h2 := by
  obtain ⟨cc, v1_w, g', h1, e1_w, e2_w, e3_w, e4_w⟩ := cls_lnk (xs := xs) (L := L) (K := K) (c := c) (d := d) (n := n) (f := f) (by omega) hd_w (by omega) hI.1 ha_w
  have hI1 : Inv0 h1 := ⟨e2_w, hI.2.kp e2_w.1 (fun o k a _ => e3_w o k a)⟩
  rcases e4_w with ⟨rfl, rfl, -⟩ | ⟨-, z, -⟩
  · obtain ⟨v2, h2, f1_w, f2_w, -⟩ := ref_inv (xs := xs) (L := L) (c := c) (d := d) hK2 hn hr hf hv hI1
    exact ⟨v1_w, v2, h1, h2, e1_w, f1_w, f2_w⟩
  · rw [ht] at z
    cases z
theorem c_203 : ∀ k, c_ty g_fk a_g3 203 k = 2 := by
  obtain ⟨c', h, e⟩ := kd_ty (q := 203) (kd := 7) (by decide +kernel)
  exact fun k => (ty_arr h k).2.1 e
theorem in_il {v : Int} (h : InI v) : InL v := ⟨by have := h.1; omega, by have := h.2; omega⟩
theorem out_inv (hI : Inv0 h) {v : Int} (hv : InI v) : Inv0 (j_up h 203 0 v) := by
  have hH : HT g_fk a_g3 (j_up h 203 0 v) := hI.1.1.up (fun e => absurd ((c_203 0).symm.trans e) (by decide)) (fun _ => in_il hv) (fun e => absurd ((c_203 0).symm.trans e) (by decide))
  have u : ∀ o k : Nat, o ≠ 203 → j_up h 203 0 v o k = h o k := fun o k e => up_ne (fun z => e z.1)
  refine ⟨⟨hH, ?_, ?_, ?_⟩, hI.2.kp hH (fun o k _ b => u o k (by omega))⟩
  · rw [u 2 1 (by decide)]; exact hI.1.2.1
  · rw [u 2 1 (by decide)]; exact hI.1.2.2.1
  · rw [u 2 1 (by decide), u 182 2 (by decide)]; exact hI.1.2.2.2
theorem chk_one : ((1 : Nat) = 1 ∨ (1 : Nat) = 4) ∧ c ≤ c + 1 ∧ d ≤ d + 6 ∧ (a_g3.map (·.1)).isPrefixOf (a_g3.map (·.1)) = true := ⟨Or.inl rfl, by omega, by omega, (chk_self (g := (a_g3, c, d))).2.2.2⟩
end INV
end
section
/-! ===== the tape is_w empty_w behind_w grid and work; feed, grid, work: both_w sides (written_w by wip/tools/lawz.py) ===== -/
def zR190 : SX := (sx 2 (sx 3 (sv 1) (sx 1 z0 (sv 1) z0) z0) (sx 2 (sx 3 (sv 2) (sx 1 z0 (sv 1) z0) z0) (sx 2 (sx 12 (sx 20 (sx 3 (sv 2) z0 z0) (sx 4 (sx 3 z0 z0 z0) (sv 3) z0) (sv 2)) (sx 20 (sx 2 (sx 3 (sv 3) (sx 7 (sx 5 (sx 3 z0 z0 z0) (sv 1) z0) (sx 3 (sv 2) z0 z0) z0) z0) (sx 2 (sx 10 (sx 26 (sx 20 (sx 3 (sv 3) z0 z0) (sx 1 (sv 10) (sv 1) z0) z0) (sx 20 (sx 3 (sv 3) z0 z0) (sx 1 (sv 32) (sv 1) z0) z0) z0) (sx 20 (sx 2 (sx 4 (sv 2) (sv 1) z0) (sx 15 z0 z0 z0) z0) z0 z0) z0) (sx 2 (sx 3 (sv 4) (sx 3 (sv 2) z0 z0) z0) (sx 2 (sx 3 (sv 5) (sx 1 z0 (sv 2) z0) z0) (sx 2 (sx 7 (sx 5 (sx 3 z0 z0 z0) (sv 5) z0) (sx 3 (sv 1) z0 z0) (so 6 (sx 3 (sv 2) z0 z0))) (sx 2 (sx 11 (sx 24 (sx 32 (sx 30 (sx 3 (sv 3) z0 z0) (sx 31 z0 z0 z0) z0) (sv 186) z0) z0 z0) (sx 20 (sx 2 (sx 12 (sx 25 (sx 20 (sx 3 (sv 2) z0 z0) (sx 4 (sx 3 z0 z0 z0) (sv 3) z0) (sv 2)) (sx 24 (sx 32 (sx 30 (sx 7 (sx 5 (sx 3 z0 z0 z0) (sv 1) z0) (sx 3 (sv 2) z0 z0) z0) (sx 31 z0 z0 z0) z0) (sv 186) z0) z0 z0) z0) (sx 20 (sx 2 (sx 3 (sv 5) (sx 28 (sx 20 (sx 14 (sx 3 (sv 2) z0 z0) (sx 3 (sv 4) z0 z0) (sv 1)) (sx 1 (sv 8) (sv 1) z0) (sv 2)) (sx 15 (sx 15 (sx 1 (sv 37) (sv 2) z0) (sx 3 (sv 5) z0 z0) (sv 2)) (sx 18 (sx 32 (sx 30 (sx 7 (sx 5 (sx 3 z0 z0 z0) (sv 1) z0) (sx 3 (sv 2) z0 z0) z0) (sx 31 z0 z0 z0) z0) (sv 188) z0) z0 (sv 2)) z0) (sx 3 (sv 5) z0 z0)) z0) (sx 4 (sv 2) (sv 1) z0) z0) z0 z0) (sx 1 z0 z0 z0)) (sx 7 (sx 5 (sx 3 z0 z0 z0) (sv 4) z0) (sx 3 (sv 1) z0 z0) (so 6 (sx 28 (sx 20 (sx 14 (sx 3 (sv 2) z0 z0) (sx 3 (sv 4) z0 z0) (sv 1)) (sx 1 (sv 8) (sv 1) z0) (sv 4)) (sx 1 (sv 4) (sv 1) z0) (sx 1 (sv 1) (sv 1) z0)))) z0) z0 z0) (sx 11 (sx 24 (sx 32 (sx 30 (sx 3 (sv 3) z0 z0) (sx 31 z0 z0 z0) z0) (sv 187) z0) z0 z0) (sx 20 (sx 2 (sx 12 (sx 25 (sx 20 (sx 3 (sv 2) z0 z0) (sx 4 (sx 3 z0 z0 z0) (sv 3) z0) (sv 2)) (sx 24 (sx 32 (sx 30 (sx 7 (sx 5 (sx 3 z0 z0 z0) (sv 1) z0) (sx 3 (sv 2) z0 z0) z0) (sx 31 z0 z0 z0) z0) (sv 187) z0) z0 z0) z0) (sx 20 (sx 2 (sx 3 (sv 5) (sx 28 (sx 20 (sx 14 (sx 3 (sv 2) z0 z0) (sx 3 (sv 4) z0 z0) (sv 1)) (sx 1 (sv 4) (sv 1) z0) (sv 2)) (sx 15 (sx 15 (sx 15 (sx 1 (sv 10) (sv 2) z0) (sx 3 (sv 5) z0 z0) (sv 2)) (sx 18 (sx 7 (sx 5 (sx 3 z0 z0 z0) (sv 1) z0) (sx 3 (sv 2) z0 z0) z0) z0 (sv 2)) z0) (sx 1 (sv 48) (sv 2) z0) (sv 1)) (sx 3 (sv 5) z0 z0)) z0) (sx 4 (sv 2) (sv 1) z0) z0) z0 z0) (sx 1 z0 z0 z0)) (sx 7 (sx 5 (sx 3 z0 z0 z0) (sv 4) z0) (sx 3 (sv 1) z0 z0) (so 6 (sx 28 (sx 20 (sx 14 (sx 3 (sv 2) z0 z0) (sx 3 (sv 4) z0 z0) (sv 1)) (sx 1 (sv 4) (sv 1) z0) (sv 4)) (sx 1 (sv 4) (sv 1) z0) (sx 1 (sv 2) (sv 1) z0)))) z0) z0 z0) (sx 20 (sx 2 (sx 3 (sv 5) (sx 18 (sx 3 (sv 3) z0 z0) z0 (sv 2)) z0) (sx 2 (sx 7 (sx 5 (sx 3 z0 z0 z0) (sv 4) z0) (sx 3 (sv 1) z0 z0) (so 6 (sx 28 (sx 24 (sx 32 (sx 30 (sx 3 (sv 3) z0 z0) (sx 31 z0 z0 z0) z0) (sv 189) z0) z0 z0) (sx 1 (sv 3) (sv 1) z0) (sx 1 (sv 4) (sv 1) z0)))) (sx 4 (sv 2) (sv 1) z0) z0) z0) z0 z0))) (sx 2 (sx 7 (sx 5 (sx 3 z0 z0 z0) (sv 6) z0) (sx 3 (sv 1) z0 z0) (so 7 (sx 3 (sv 5) z0 z0))) (sx 4 (sv 1) (sv 1) z0) z0) z0) z0) z0) z0) z0) z0) z0 z0) (sx 1 z0 z0 z0)) (sx 2 (sx 7 (sx 5 (sx 3 z0 z0 z0) (sv 4) z0) (sx 3 (sv 1) z0 z0) (so 6 (sx 1 z0 (sv 1) z0))) (sx 2 (sx 7 (sx 5 (sx 3 z0 z0 z0) (sv 5) z0) (sx 3 (sv 1) z0 z0) (so 6 (sx 4 (sx 3 z0 z0 z0) (sv 3) z0))) (sx 2 (sx 5 (sx 3 z0 z0 z0) (sx 1 z0 (sv 1) z0) (sv 7)) (sx 5 (sx 3 z0 z0 z0) (sx 1 z0 (sv 1) z0) (sv 8)) z0) z0) z0) z0) z0) z0)
def zR206 : SX := (sx 2 (sx 5 (sx 3 z0 z0 z0) (sx 1 z0 (sv 1) z0) (sv 12)) (sx 2 (sx 9 (sx 32 (sx 30 (sx 3 z0 z0 z0) (sx 30 (sx 1 (sv 95) (sv 1) z0) (sx 31 z0 z0 z0) z0) z0) (sv 199) z0) z0 z0) (sx 2 (sx 12 (sx 25 (sx 21 (sx 4 (sx 3 z0 z0 z0) (sv 8) z0) z0 z0) (sx 21 (sx 7 (sx 5 (sx 3 z0 z0 z0) (sv 4) z0) (sx 4 (sx 3 z0 z0 z0) (sv 7) z0) z0) z0 (sv 1)) z0) (sx 20 (sx 2 (sx 9 (sx 32 (sx 30 (sx 3 z0 z0 z0) (sx 31 z0 z0 z0) z0) (sv 210) z0) z0 z0) (sx 9 (sx 32 (sx 30 (sx 3 z0 z0 z0) (sx 30 (sx 1 (sv 59) (sv 1) z0) (sx 31 z0 z0 z0) z0) z0) (sv 194) z0) z0 z0) z0) z0 z0) (sx 1 z0 z0 z0)) (sx 2 (sx 10 (sx 21 (sx 4 (sx 3 z0 z0 z0) (sv 8) z0) z0 (sv 4)) (sx 20 (sx 16 (sx 4 (sx 3 z0 z0 z0) (sv 8) z0) z0 z0) z0 z0) z0) (sx 2 (sx 20 (sx 2 (sx 3 (sv 1) (sx 1 z0 (sv 1) z0) z0) (sx 12 (sx 20 (sx 3 (sv 1) z0 z0) (sx 1 (sv 95) (sv 1) z0) (sv 2)) (sx 20 (sx 7 (sx 5 (sx 3 z0 z0 z0) (sv 10) z0) (sx 3 (sv 1) z0 z0) (so 6 (sx 7 (sx 5 (sx 3 z0 z0 z0) (sv 10) z0) (sx 14 (sx 1 (sv 95) (sv 1) z0) (sx 3 (sv 1) z0 z0) z0) z0))) z0 z0) (sx 4 (sv 1) (sv 1) z0)) z0) z0 z0) (sx 2 (sx 20 (sx 2 (sx 3 (sv 1) (sx 1 z0 (sv 1) z0) z0) (sx 12 (sx 20 (sx 3 (sv 1) z0 z0) (sx 4 (sx 3 z0 z0 z0) (sv 12) z0) (sv 2)) (sx 20 (sx 7 (sx 5 (sx 3 z0 z0 z0) (sv 11) z0) (sx 3 (sv 1) z0 z0) (so 6 (sx 7 (sx 5 (sx 3 z0 z0 z0) (sv 11) z0) (sx 14 (sx 1 (sv 1100) (sv 1) z0) (sx 3 (sv 1) z0 z0) z0) z0))) z0 z0) (sx 4 (sv 1) (sv 1) z0)) z0) z0 z0) (sx 2 (sx 20 (sx 2 (sx 3 (sv 1) (sx 1 z0 (sv 1) z0) z0) (sx 12 (sx 20 (sx 3 (sv 1) z0 z0) (sx 1 (sv 14) (sv 1) z0) (sv 2)) (sx 20 (sx 7 (sx 5 (sx 3 z0 z0 z0) (sv 13) z0) (sx 3 (sv 1) z0 z0) (so 7 (sx 7 (sx 5 (sx 3 z0 z0 z0) (sv 13) z0) (sx 14 (sx 1 (sv 14) (sv 1) z0) (sx 3 (sv 1) z0 z0) z0) z0))) z0 z0) (sx 4 (sv 1) (sv 1) z0)) z0) z0 z0) (sx 2 (sx 9 (sx 32 (sx 30 (sx 3 z0 z0 z0) (sx 31 z0 z0 z0) z0) (sv 241) z0) z0 z0) (sx 16 (sx 1 z0 (sv 1) z0) z0 z0) z0) z0) z0) z0) z0) z0) z0) z0)
def zR214 : SX := (sx 2 (sx 3 (sv 1) (sx 1 z0 (sv 1) z0) z0) (sx 2 (sx 12 (sx 25 (sx 21 (sx 4 (sx 3 z0 z0 z0) (sv 8) z0) z0 z0) (sx 21 (sx 7 (sx 5 (sx 3 z0 z0 z0) (sv 4) z0) (sx 4 (sx 3 z0 z0 z0) (sv 7) z0) z0) z0 (sv 1)) z0) (sx 20 (sx 2 (sx 3 (sv 2) (sx 32 (sx 30 (sx 3 z0 z0 z0) (sx 30 (sx 1 (sv 9) (sv 1) z0) (sx 30 (sx 1 (sv 4) (sv 1) z0) (sx 31 z0 z0 z0) z0) z0) z0) (sv 201) z0) z0) (sx 2 (sx 11 (sx 21 (sx 3 (sv 2) z0 z0) z0 (sv 2)) (sx 20 (sx 9 (sx 32 (sx 30 (sx 3 z0 z0 z0) (sx 30 (sx 1 (sv 1) (sv 1) z0) (sx 31 z0 z0 z0) z0) z0) (sv 191) z0) z0 z0) z0 z0) (sx 11 (sx 20 (sx 3 (sv 1) z0 z0) (sx 1 (sv 30) (sv 1) z0) z0) (sx 20 (sx 9 (sx 32 (sx 30 (sx 3 z0 z0 z0) (sx 30 (sx 1 (sv 5) (sv 1) z0) (sx 31 z0 z0 z0) z0) z0) (sv 191) z0) z0 z0) z0 z0) (sx 20 (sx 2 (sx 6 (sx 3 z0 z0 z0) (sx 1 (sv 1) (sv 1) z0) (sv 112)) (sx 2 (sx 9 (sx 32 (sx 30 (sx 3 z0 z0 z0) (sx 30 (sx 14 (sx 1 (sv 125) (sv 1) z0) (sx 14 (sx 1 (sv 4) (sv 1) z0) (sx 3 (sv 1) z0 z0) (sv 2)) z0) (sx 30 (sx 3 (sv 2) z0 z0) (sx 31 z0 z0 z0) z0) z0) z0) (sv 215) z0) z0 z0) (sx 4 (sv 1) (sv 1) z0) z0) z0) z0 z0))) (sx 9 (sx 32 (sx 30 (sx 3 z0 z0 z0) (sx 30 (sx 1 (sv 59) (sv 1) z0) (sx 31 z0 z0 z0) z0) z0) (sv 194) z0) z0 z0) z0) z0) z0 z0) (sx 1 z0 z0 z0)) (sx 2 (sx 10 (sx 21 (sx 4 (sx 3 z0 z0 z0) (sv 8) z0) z0 (sv 4)) (sx 20 (sx 16 (sx 4 (sx 3 z0 z0 z0) (sv 8) z0) z0 z0) z0 z0) z0) (sx 2 (sx 7 (sx 5 (sx 3 z0 z0 z0) (sv 14) z0) (sx 1 z0 (sv 1) z0) (so 6 (sx 3 (sv 1) z0 z0))) (sx 2 (sx 20 (sx 2 (sx 3 (sv 2) (sx 1 z0 (sv 1) z0) z0) (sx 12 (sx 20 (sx 3 (sv 2) z0 z0) (sx 14 (sx 1 (sv 4) (sv 1) z0) (sx 3 (sv 1) z0 z0) (sv 2)) (sv 2)) (sx 20 (sx 7 (sx 5 (sx 3 z0 z0 z0) (sv 14) z0) (sx 14 (sx 1 (sv 1) (sv 1) z0) (sx 3 (sv 2) z0 z0) z0) (so 6 (sx 7 (sx 5 (sx 3 z0 z0 z0) (sv 14) z0) (sx 14 (sx 1 (sv 125) (sv 1) z0) (sx 3 (sv 2) z0 z0) z0) z0))) z0 z0) (sx 4 (sv 2) (sv 1) z0)) z0) z0 z0) (sx 16 (sx 1 z0 (sv 1) z0) z0 z0) z0) z0) z0) z0) z0)
def zW : List Nat × List Nat := ([0, 3, 7, 8, 12, 18, 19], [184, 185, 186, 188, 189, 190, 191, 194, 195])
theorem zb_190 : bb_190 = sx 2 (sx 2 (sx 5 (sx 3 z0 z0 z0) (sx 4 (sx 3 z0 z0 z0) (sv 2) z0) (sv 3)) (sx 2 (sx 5 (sx 3 z0 z0 z0) (sx 1 z0 (sv 1) z0) (sv 2)) zR190 z0) z0) (sx 17 z0 z0 z0) z0 := rfl
theorem zb_206 : bb_206 = sx 2 (sx 5 (sx 3 z0 z0 z0) (sx 1 z0 (sv 1) z0) z0) (sx 2 (sx 9 (sx 32 (sx 30 (sx 3 z0 z0 z0) (sx 31 z0 z0 z0) z0) (sv 190) z0) z0 z0) zR206 z0) z0 := rfl
theorem zb_214 : bb_214 = sx 2 (sx 5 (sx 3 z0 z0 z0) (sx 1 z0 (sv 1) z0) z0) (sx 2 (sx 9 (sx 32 (sx 30 (sx 3 z0 z0 z0) (sx 31 z0 z0 z0) z0) (sv 190) z0) z0 z0) zR214 z0) z0 := rfl
theorem zf_190 : (fr_S m_W m_in m_st false zW zR190).1 = true := by decide +kernel
theorem zf_206 : (fr_S m_W m_in m_st false zW zR206).1 = true := by decide +kernel
theorem zf_214 : (fr_S m_W m_in m_st false zW zR214).1 = true := by decide +kernel
section ZZ
variable {xs : Nat → Int} {L K n : Nat} {c d : Nat} {h h' : XH} {g g' : XS × Nat × Nat}
theorem z_R {R : SX} (hR : (fr_S m_W m_in m_st false zW R).1 = true) {en : List Int} {cc : Nat} {vs en' : List Int} (hg : g.1 = a_g3) (ht : en.getD 0 0 = 182) (z : h 182 2 = 0) (e : evS xs L g_ck (evF xs L g_ck K g_cW g_M n) K g_cW R en (g, h) = some (cc, vs, en', (g', h'))) : h' 182 2 = 0 := by
  obtain ⟨-, fr, -⟩ := (fr_S_ok (fr_all n) R).1 hR en g h cc vs en' g' h' hg (Or.inr ht) e
  rw [fr 182 2 (fun _ => by decide) (by decide)]
  exact z
theorem put_ev {F : XP} {e : SX} {k : Nat} {v : Int} {en : List Int} (ht : en.getD 0 0 = 182) (he : evE xs L g_ck F g_cW e en (g, h) = some ([v], (g, h))) : evS xs L g_ck F K g_cW (sx 5 (sx 3 z0 z0 z0) e (sv k)) en (g, h) = some (0, [], en, (g, j_up h 182 k v)) := by
  rw [es_5]
  unfold s_putf
  rw [ee_3]
  show ((evE xs L g_ck F g_cW e en (g, h)).bind fun y => some (0, [], en, (y.2.1, j_up y.2.2 (en.getD 0 0).toNat k (j_hd y.1)))) = _
  rw [he, ht]
  rfl
theorem put_ev0 {F : XP} {e : SX} {v : Int} {en : List Int} (ht : en.getD 0 0 = 182) (he : evE xs L g_ck F g_cW e en (g, h) = some ([v], (g, h))) : evS xs L g_ck F K g_cW (sx 5 (sx 3 z0 z0 z0) e z0) en (g, h) = some (0, [], en, (g, j_up h 182 0 v)) := by
  rw [es_5]
  unfold s_putf
  rw [ee_3]
  show ((evE xs L g_ck F g_cW e en (g, h)).bind fun y => some (0, [], en, (y.2.1, j_up y.2.2 (en.getD 0 0).toNat 0 (j_hd y.1)))) = _
  rw [he, ht]
  rfl
theorem seq_0 {A B : XR} {en en1 : List Int} {st st1_w : XT} {vs : List Int} (ha_w : A en st = some (0, vs, en1, st1_w)) : s_seq A B en st = B en1 st1_w := by
  unfold s_seq
  rw [ha_w]
  rfl
theorem z_190 {cc : Nat} {r : List Int} (hg : g.1 = a_g3) (e : evF xs L g_ck K g_cW g_M (n + 1) 190 [182] (g, h) = some (cc, r, (g', h'))) : h' 182 2 = 0 := by
  unfold evF at e
  rw [gm_190] at e
  obtain ⟨⟨c1_w, v1_w, en1, g1, h1⟩, e1_w, e2_w⟩ := j_bd e
  have e1' : evS xs L g_ck (evF xs L g_ck K g_cW g_M n) K g_cW bb_190 [182, 0, 0, 0, 0, 0, 0] (g, h) = some (c1_w, v1_w, en1, (g1, h1)) := e1_w
  have hh : h1 = h' := by
    dsimp only at e2_w
    split at e2_w
    · cases e2_w
      rfl
    · cases e2_w
  subst hh
  rw [zb_190, es_2, es_2, es_2] at e1'
  obtain ⟨⟨c2, v2, en2, g2, h2⟩, e3_w, e4_w⟩ := j_bd e1'
  rw [seq_0 (put_ev rfl rfl), seq_0 (put_ev rfl rfl)] at e3_w
  have z2 : h2 182 2 = 0 := z_R zf_190 hg rfl up_eq e3_w
  dsimp only at e4_w
  split at e4_w
  · cases e4_w
    exact z2
  · cases e4_w
    exact z2
theorem z_gw {q : Nat} {R : SX} {ml_w : Nat} {cc : Nat} {r en : List Int} (hq : g_M q = (0, ml_w, [20], [1], sx 2 (sx 5 (sx 3 z0 z0 z0) (sx 1 z0 (sv 1) z0) z0) (sx 2 (sx 9 (sx 32 (sx 30 (sx 3 z0 z0 z0) (sx 31 z0 z0 z0) z0) (sv 190) z0) z0 z0) R z0) z0)) (hen : j_pad 0 ml_w (j_lay [20] [182]) = en) (ht : en.getD 0 0 = 182) (hR : (fr_S m_W m_in m_st false zW R).1 = true) (hg : g.1 = a_g3) (e : evF xs L g_ck K g_cW g_M (n + 2) q [182] (g, h) = some (cc, r, (g', h'))) : h' 182 2 = 0 := by
  unfold evF at e
  rw [hq] at e
  obtain ⟨⟨c1_w, v1_w, en1, g1, h1⟩, e1_w, e2_w⟩ := j_bd e
  have hh : h1 = h' := by
    dsimp only at e2_w
    split at e2_w
    · cases e2_w
      rfl
    · cases e2_w
  subst hh
  dsimp only at e1_w
  rw [hen, es_2, es_2, seq_0 (put_ev0 ht rfl)] at e1_w
  obtain ⟨⟨c2, v2, en2, g2, h2⟩, e3_w, e4_w⟩ := j_bd e1_w
  rw [es_9, ee_32] at e3_w
  obtain ⟨⟨v3, g3_w, h3⟩, e5_w, e6_w⟩ := j_bd e3_w
  have e5' : (evF xs L g_ck K g_cW g_M (n + 1) 190 [en.getD 0 0] (g, j_up h 182 0 0)).bind (fun r => if r.1 = 1 then some r.2 else none) = some (v3, (g3_w, h3)) := e5_w
  rw [ht] at e5'
  obtain ⟨⟨c7, v7, g7, h7⟩, e8, e9_w⟩ := j_bd e5'
  have z7 : h7 182 2 = 0 := z_190 hg e8
  obtain ⟨hg7, -⟩ := fr_all (n + 1) 190 [182] _ _ _ _ _ _ (by decide) hg (Or.inr rfl) e8
  have k7 : (v7, (g7, h7)) = (v3, (g3_w, h3)) := by
    dsimp only at e9_w
    split at e9_w
    · exact Option.some.inj e9_w
    · cases e9_w
  cases k7
  dsimp only at e6_w
  cases e6_w
  exact z_R hR hg7 ht z7 e4_w
theorem z_206 {cc : Nat} {r : List Int} (hg : g.1 = a_g3) (e : evF xs L g_ck K g_cW g_M (n + 2) 206 [182] (g, h) = some (cc, r, (g', h'))) : h' 182 2 = 0 := z_gw (gm_206.trans (by rw [zb_206])) rfl rfl zf_206 hg e
theorem z_214 {cc : Nat} {r : List Int} (hg : g.1 = a_g3) (e : evF xs L g_ck K g_cW g_M (n + 2) 214 [182] (g, h) = some (cc, r, (g', h'))) : h' 182 2 = 0 := z_gw (gm_214.trans (by rw [zb_214])) rfl rfl zf_214 hg e
theorem c_190 {P : Int × Int} {gg : Nat × Nat} (hK_w : 4294967300 ≤ K) : G190 P gg (evF xs L g_ck K g_cW g_M (n + 40)) := g_190 (n := n + 39) hK_w (g_186 (n := n + 38)) (g_187 (n := n + 38)) (g_188 (n := n + 38) (g_186 (n := n + 37))) (g_189 (n := n + 38))
theorem grid_inv (hK2 : 20000000000 ≤ K) (hn : n + 41 < 99999) (hI : Inv0 h) : ∃ (v1_w v2 : List Int) (h1 h2 : XH), evF xs L g_ck K g_cW g_M (n + 41) 2 [0] ((a_g3, c, d), h) = some (1, v1_w, ((a_g3, c, d), h1)) ∧ evF xs L g_ck K g_cW g_M (n + 41) 206 [182] ((a_g3, c, d), h1) = some (1, v2, ((a_g3, c, d), h2)) ∧ Inv0 h2 := by
  obtain ⟨v, h1, e1_w, e2_w, e3_w, e4_w⟩ := grid_ok (xs := xs) (L := L) (K := K) (c := c) (d := d) (n := n + 40) (by omega) (by omega) hI.1.1
  obtain ⟨P, hQ, hD, k0_w, k1_w⟩ := hI.2.kp e2_w (fun o k a _ => e4_w o k a)
  obtain ⟨r, h2, f1_w, w, -, -, f2_w⟩ := p_206 (P := P) (g := (c, d)) (xs := xs) (L := L) (K := K) (n := n) (ck := g_ck) (cW := g_cW) hK2 (c_190 (K := K) (by omega)) hQ hD k0_w k1_w
  have z : h2 182 2 = 0 := z_206 (n := n + 39) rfl f1_w
  obtain ⟨-, fr⟩ := fr_all (n + 41) 206 [182] _ _ _ _ _ _ (by decide) rfl (Or.inr rfl) f1_w
  have qt : h2 2 1 = 0 := (fr 2 1 (fun z => absurd z (by decide)) (by decide)).trans e3_w
  have hH : HT g_fk a_g3 h2 := by
    obtain ⟨P'_w, q, -⟩ := f2_w
    exact q.1
  exact ⟨[v], r, h1, h2, e1_w, f1_w, ⟨hH, by rw [qt]; decide, by rw [qt]; decide, by rw [z, qt]⟩, f2_w⟩
theorem work_inv (hK2 : 20000000000 ≤ K) (hn : n + 41 < 99999) (hI : Inv0 h) : ∃ (v1_w v2 : List Int) (h1 h2 : XH), evF xs L g_ck K g_cW g_M (n + 41) 4 [0] ((a_g3, c, d), h) = some (1, v1_w, ((a_g3, c, d), h1)) ∧ evF xs L g_ck K g_cW g_M (n + 41) 214 [182] ((a_g3, c, d), h1) = some (1, v2, ((a_g3, c, d), h2)) ∧ Inv0 h2 := by
  obtain ⟨v, h1, e1_w, e2_w, e3_w, e4_w⟩ := work_ok (xs := xs) (L := L) (K := K) (c := c) (d := d) (n := n + 40) (by omega) (by omega) hI.1.1
  obtain ⟨P, hQ, hD, k0_w, k1_w⟩ := hI.2.kp e2_w (fun o k a _ => e4_w o k a)
  obtain ⟨r, h2, f1_w, w, -, -, f2_w, f3_w, f4_w, f5_w⟩ := p_214 (P := P) (g := (c, d)) (xs := xs) (L := L) (K := K) (n := n) (ck := g_ck) (cW := g_cW) hK2 hn (c_190 (K := K) (by omega)) hQ hD k0_w k1_w
  have z : h2 182 2 = 0 := z_214 (n := n + 39) rfl f1_w
  obtain ⟨-, fr⟩ := fr_all (n + 41) 214 [182] _ _ _ _ _ _ (by decide) rfl (Or.inr rfl) f1_w
  have qt : h2 2 1 = 0 := (fr 2 1 (fun z => absurd z (by decide)) (by decide)).trans e3_w
  exact ⟨[v], r, h1, h2, e1_w, f1_w, ⟨f2_w.1, by rw [qt]; decide, by rw [qt]; decide, by rw [z, qt]⟩, P, f2_w, f3_w, f4_w, f5_w⟩
theorem feed_inv (hK_w : 4294967300 ≤ K) {a b e : Int} (hI : Inv0 h) : ∃ (v : Int) (h1 h2 : XH), evF xs L g_ck K g_cW g_M (n + 2) 1 [0, a, b, e] ((a_g3, c, d), h) = some (1, [v], ((a_g3, c, d), h1)) ∧ evF xs L g_ck K g_cW g_M (n + 2) 183 [182, a, b, e] ((a_g3, c, d), h1) = some (1, [v], ((a_g3, c, d), h2)) ∧ Inv0 h2 := by
  obtain ⟨v, h1, h2, e1_w, f1_w, hL⟩ := feed_ok (xs := xs) (L := L) (K := K) (c := c) (d := d) (n := n) (a := a) (b := b) (e := e) hK_w hI.1
  obtain ⟨hH, m0_w, m1_w, hm_w⟩ := hI.1
  obtain ⟨h1', e1', -, e3_w⟩ := fqA (xs := xs) (L := L) (ck := g_ck) (cW := g_cW) (K := K) (n := n) (a := a) (b := b) (c := e) (g := (a_g3, c, d)) (h := h) (by omega) fg_1 fg_2 fg_3 fg_4 (by decide) rfl ⟨m0_w, m1_w⟩
  have u1 : h1' = h1 := by
    have t := e1'.symm.trans e1_w
    cases t
    rfl
  subst u1
  have k1_w : KeptC h h1' := e3_w (fun x => KeptC h x) (fun x m s p => by
    unfold upA
    split
    · intro o k ho
      have t2_w : (2 : Int).toNat = 2 := rfl
      have t3_w : (3 : Int).toNat = 3 := rfl
      rw [up_ne (fun z => by have := z.1; omega), up_ne (fun z => by have := z.1; omega)]
      exact p o k ho
    · exact p) (fun _ _ _ => rfl)
  obtain ⟨h2', f1', -, f3_w⟩ := fqM (xs := xs) (L := L) (ck := g_ck) (cW := g_cW) (K := K) (n := n) (a := a) (b := b) (c := e) (g := (a_g3, c, d)) (h := h1') (by omega) fg_5 fg_6 (by decide) (show h1' (182 : Int).toNat 2 = h 2 1 from (k1_w 182 2 (Nat.le_refl _)).trans hm_w) ⟨m0_w, m1_w⟩
  have u2_w : h2' = h2 := by
    have t := f1'.symm.trans f1_w
    cases t
    rfl
  subst u2_w
  have hI1 : LQ h1' := hI.2.kp (by
    have t := e3_w _ kpA_HT hH
    exact t) (fun o k q _ => k1_w o k q)
  obtain ⟨P, hQ, hD, c0, c1_w⟩ := hI1
  have key := f3_w (fun x => (∀ o k : Nat, 182 ≤ o → (o = 182 → k ≠ 0 ∧ k ≠ 2) → o ≠ 183 → x o k = h1' o k) ∧ (∀ i : Nat, i < 1000 → IV P (1, 0, 255) (x 183 i)) ∧ x 182 0 = 0) (fun x m s hs p => by
    unfold upM
    split
    · rename_i hr
      have hs2 : 0 ≤ s ∧ s ≤ 255 := by
        unfold rdB j_b at hr
        by_cases t1_w : s = 10
        · omega
        · by_cases t2_w : 32 ≤ s ∧ s ≤ 126
          · omega
          · have t3_w : (decide (s = 10) || (decide (32 ≤ s) && decide (s ≤ 126))) = false := by
              rw [decide_eq_false t1_w, Bool.false_or, Bool.and_eq_false_iff, decide_eq_false_iff_not, decide_eq_false_iff_not]
              omega
            rw [t3_w] at hr
            exact absurd hr (by decide)
      have t2_w : (182 : Int).toNat = 182 := rfl
      have t3_w : (183 : Int).toNat = 183 := rfl
      rw [t2_w, t3_w]
      refine ⟨fun o k ho h1 h2 => ?_, fun i hi_w => ?_, ?_⟩
      · rw [up_ne (fun z => (h1 z.1).2 z.2), up_ne (fun z => h2 z.1)]
        exact p.1 o k ho h1 h2
      · rw [up_ne (fun z => absurd z.1 (by decide))]
        by_cases t : i = m.toNat
        · subst t
          rw [up_eq]
          exact ⟨hs2.1, hs2.2, hs⟩
        · rw [up_ne (fun z => t z.2)]
          exact p.2.1 i hi_w
      · rw [up_ne (fun z => absurd z.2 (by decide)), up_ne (fun z => absurd z.1 (by decide))]
        exact p.2.2
    · exact p) ⟨fun o k ho q1_w q2_w => up_ne (fun z => by
        have t2_w : (182 : Int).toNat = 182 := rfl
        exact (q1_w (z.1.trans t2_w)).1 z.2), fun i hi_w => by
        rw [up_ne (fun z => absurd z.1 (by decide))]
        have t := hQ.2.2.1 183 (by decide) (0, 1000, (1, 0, 255)) List.mem_cons_self i 0 (Nat.zero_le _) hi_w (by decide)
        have u : (qA (r_T 0) 183).2.1 * 0 + i = i := by rw [Nat.mul_zero, Nat.zero_add]
        rw [u] at t
        exact t, up_eq⟩
  obtain ⟨p1_w, p2_w, p3_w⟩ := key
  have eo : ∀ o : Nat, 183 < o → h2' o = h1' o := fun o a => funext fun k => p1_w o k (by omega) (fun z => by omega) (by omega)
  refine ⟨v, h1', h2', e1_w, f1_w, hL, P, ⟨hL.1, fun k => ?_, fun q hq => ?_, ?_⟩, ?_, ?_, ?_⟩
  · by_cases t0_w : k = 0
    · subst t0_w
      rw [p3_w]
      exact ⟨by decide, by decide, in_0⟩
    · by_cases t2_w : k = 2
      · subst t2_w
        have l1 := hL.2.1
        have l2 := hL.2.2.1
        have l3 := hL.2.2.2
        exact ⟨by omega, by omega, ⟨by omega, by omega⟩⟩
      · rw [p1_w 182 k (by decide) (fun _ => ⟨t0_w, t2_w⟩) (by decide)]
        exact hQ.2.1 k
  · by_cases t : q = 183
    · subst t
      intro x hx i j j1 j2_w j3_w
      have ex_w : x = (0, 1000, (1, 0, 255)) := by
        have : x ∈ [(0, 1000, ((1, 0, 255) : IT))] := hx
        exact List.mem_singleton.mp this
      subst ex_w
      have u : (qA (r_T 0) 183).2.1 * j + i = i := by
        show 0 * j + i = i
        rw [Nat.zero_mul, Nat.zero_add]
      rw [u]
      exact p2_w i j2_w
    · rw [eo q (by omega)]
      exact hQ.2.2.1 q hq
  · have hj := hQ.2.2.2
    unfold RJ at hj ⊢
    rw [eo 188 (by decide), eo 189 (by decide), eo 191 (by decide)]
    exact hj
  · unfold DG
    rw [eo 188 (by decide)]
    exact hD
  · rw [p1_w 182 12 (by decide) (fun _ => ⟨by decide, by decide⟩) (by decide)]
    exact c0
  · rw [p1_w 182 12 (by decide) (fun _ => ⟨by decide, by decide⟩) (by decide)]
    exact c1_w
end ZZ
end
section
/-! ===== what lasts holds_w at the beginning ===== -/
def i_ok : Sum Int Nat → Bool
  | .inl _ => true
  | .inr _ => false
def i_va : Sum Int Nat → Int
  | .inl v => v
  | .inr _ => 0
def i0 (o k : Nat) : Int := i_va (lookH a_h3 o k)
/-- what a number_w may_w be, asked_w of the number_w itself_w -/
def i_iv : IT → Int → Bool
  | (0, _, _), _ => true
  | (1, l, h), v => decide (l ≤ v) && decide (v ≤ h) && decide (-2147483648 ≤ v) && decide (v < 2147483648)
  | (2, l, h), v => decide (l ≤ v) && decide (v ≤ h) && decide (-9223372036854775808 ≤ v) && decide (v < 9223372036854775808)
  | (4, l, _), v => decide (v = l)
  | (7, _, _), v => decide (v = 0)
  | (8, _, _), v => decide (v = 0)
  | _, _ => false
theorem i_iv_ok : ∀ {t : IT} {v : Int}, i_iv t v = true → IV (0, 0) t v
  | (0, _, _), _, _ => trivial
  | (1, l, h), v, e => by
    simp only [i_iv, Bool.and_eq_true, decide_eq_true_eq] at e
    exact ⟨e.1.1.1, e.1.1.2, e.1.2, e.2⟩
  | (2, l, h), v, e => by
    simp only [i_iv, Bool.and_eq_true, decide_eq_true_eq] at e
    exact ⟨e.1.1.1, e.1.1.2, e.1.2, e.2⟩
  | (3, _, _), _, e => by cases e
  | (4, l, _), v, e => (of_decide_eq_true e : v = l)
  | (5, _, _), _, e => by cases e
  | (6, _, _), _, e => by cases e
  | (7, _, _), v, e => by
    have : v = 0 := of_decide_eq_true e
    subst this
    exact ⟨rfl, by decide, by decide⟩
  | (8, _, _), v, e => by
    have : v = 0 := of_decide_eq_true e
    subst this
    exact ⟨rfl, by decide, by decide⟩
  | (_ + 9, _, _), _, e => by cases e
def i_ht (t : Nat) (v : Int) : Bool := (!(t == 1) || (decide (-2147483648 ≤ v) && decide (v < 2147483648))) && (!(t == 2) || (decide (-9223372036854775808 ≤ v) && decide (v < 9223372036854775808))) && (!(t == 100) || decide (v = 0) || decide (v = 1))
def i_rows : Nat → AH → Bool
  | _, [] => true
  | o, l :: r => l.all (fun p => i_ok p.2 && i_ht (c_ty g_fk a_g3 o p.1) (i_va p.2)) && i_rows (o + 1) r
theorem i_rows_ok : i_rows 0 a_h3 = true := by decide +kernel
def i_row (q : Nat) : List (Nat × AV) := a_h3.getD q []
def i_reg (q : Nat) : Bool := (r_A q).2.2.all fun r =>
  (i_iv r.2.2 0 && (Nat.beq (r_A q).2.1 0 || Nat.ble r.2.1 (r_A q).2.1) && (i_row q).all (fun p => !(Nat.ble r.1 (if (r_A q).2.1 = 0 then p.1 else p.1 % (r_A q).2.1) && Nat.blt (if (r_A q).2.1 = 0 then p.1 else p.1 % (r_A q).2.1) r.2.1) || i_iv r.2.2 (i_va p.2)))
  || (Nat.beq (r_A q).2.1 0 && (List.range (r.2.1 - r.1)).all fun i => i_iv r.2.2 (i0 q (r.1 + i)))
theorem i_reg_ok : (List.range 20).all (fun q => i_reg (183 + q)) = true := by decide +kernel
theorem i_fld_ok : (List.range 30).all (fun k => i_iv (r_F k) (i0 182 k)) = true := by decide +kernel
theorem i_188 : i0 188 96 = 0 ∧ i0 188 98 = 0 ∧ i0 188 4 = -1 ∧ i0 191 0 = 0 ∧ i0 182 12 = 0 ∧ i0 2 1 = 0 ∧ i0 182 2 = 0 := by decide +kernel
theorem lookR_in : ∀ (l : List (Nat × AV)) (k : Nat), lookR l k = .inl 0 ∨ (k, lookR l k) ∈ l
  | [], _ => Or.inl rfl
  | (a, v) :: l, k => by
    rw [lookR_cons]
    by_cases e : k = a
    · rw [if_pos e, e]
      exact Or.inr List.mem_cons_self
    · rw [if_neg e]
      rcases lookR_in l k with h | h
      · exact Or.inl h
      · exact Or.inr (List.mem_cons_of_mem _ h)
theorem i_ht0 : ∀ t, i_ht t 0 = true := fun t => by
  unfold i_ht
  simp
theorem i_rows_at : ∀ {l : AH} {b : Nat}, i_rows b l = true → ∀ o k : Nat, i_ok (lookH l o k) = true ∧ i_ht (c_ty g_fk a_g3 (b + o) k) (i_va (lookH l o k)) = true
  | [], _, _, _, _ => ⟨rfl, i_ht0 _⟩
  | row :: r, b, h, 0, k => by
    unfold i_rows at h
    rw [Bool.and_eq_true] at h
    show i_ok (lookR row k) = true ∧ i_ht (c_ty g_fk a_g3 b k) (i_va (lookR row k)) = true
    rcases lookR_in row k with e | e
    · rw [e]
      exact ⟨rfl, i_ht0 _⟩
    · have t := List.all_eq_true.mp h.1 _ e
      rw [Bool.and_eq_true] at t
      exact t
  | row :: r, b, h, o + 1, k => by
    unfold i_rows at h
    rw [Bool.and_eq_true] at h
    have t := i_rows_at h.2 o k
    rw [show b + (o + 1) = b + 1 + o by omega]
    exact t
theorem i_look (xs : Nat → Int) (o k : Nat) : (a_c xs a_s3).2 o k = i0 o k := by
  show a_v xs (lookH a_h3 o k) = i_va (lookH a_h3 o k)
  have t := (i_rows_at i_rows_ok o k).1
  generalize lookH a_h3 o k = v at t ⊢
  cases v with
  | inl v => rfl
  | inr v => cases t
theorem i_heap (xs : Nat → Int) : (a_c xs a_s3).2 = i0 := funext fun o => funext fun k => i_look xs o k
theorem i_HT : HT g_fk a_g3 i0 := fun o k => by
  have t := (i_rows_at i_rows_ok o k).2
  rw [Nat.zero_add] at t
  have t2_w : i_ht (c_ty g_fk a_g3 o k) (i0 o k) = true := t
  generalize c_ty g_fk a_g3 o k = ty_w at t2_w ⊢
  generalize i0 o k = v at t2_w ⊢
  simp only [i_ht, Bool.and_eq_true, Bool.or_eq_true, Bool.not_eq_true', beq_eq_false_iff_ne, ne_eq, decide_eq_true_eq] at t2_w
  obtain ⟨⟨h1, h2⟩, h3⟩ := t2_w
  refine ⟨fun e => ?_, fun e => ?_, fun e => ?_⟩
  · rcases h1 with h1 | h1
    · exact absurd e h1
    · exact h1
  · rcases h2 with h2 | h2
    · exact absurd e h2
    · exact h2
  · rcases h3 with (h3 | h3) | h3
    · exact absurd e h3
    · exact Or.inl h3
    · exact Or.inr h3
theorem lookH_row : ∀ (l : AH) (q k : Nat), lookH l q k = lookR (l.getD q []) k
  | [], _, _ => rfl
  | _ :: _, 0, _ => rfl
  | _ :: l, q + 1, k => lookH_row l q k
theorem i_AInv (q : Nat) (hq : 183 ≤ q) : AInv (0, 0) (r_A q) (i0 q) := by
  intro r hr i j h1 h2 h3
  by_cases hi_w : q < 203
  · have t := List.all_eq_true.mp i_reg_ok (q - 183) (List.mem_range.mpr (by omega))
    rw [show 183 + (q - 183) = q by omega] at t
    have t1_w := List.all_eq_true.mp t r hr
    rw [Bool.or_eq_true] at t1_w
    rcases t1_w with t1_w | t1_w
    · rw [Bool.and_eq_true, Bool.and_eq_true] at t1_w
      obtain ⟨⟨t2_w, t3_w⟩, t4_w⟩ := t1_w
      have e : i0 q ((r_A q).2.1 * j + i) = i_va (lookR (i_row q) ((r_A q).2.1 * j + i)) := by
        unfold i0 i_row
        rw [lookH_row]
      rw [e]
      rcases lookR_in (i_row q) ((r_A q).2.1 * j + i) with z | z
      · rw [z]
        exact i_iv_ok t2_w
      · have t5_w := List.all_eq_true.mp t4_w _ z
        dsimp only at t5_w
        have ek : (if (r_A q).2.1 = 0 then (r_A q).2.1 * j + i else ((r_A q).2.1 * j + i) % (r_A q).2.1) = i := by
          split
          · rename_i e0
            rw [e0, Nat.zero_mul, Nat.zero_add]
          · rename_i e0
            rw [Bool.or_eq_true] at t3_w
            rcases t3_w with t3_w | t3_w
            · exact absurd (Nat.eq_of_beq_eq_true t3_w) e0
            · rw [Nat.mul_add_mod]
              exact Nat.mod_eq_of_lt (Nat.lt_of_lt_of_le h2 (Nat.le_of_ble_eq_true t3_w))
        rw [ek, Bool.or_eq_true] at t5_w
        rcases t5_w with t5_w | t5_w
        · rw [Nat.ble_eq.mpr h1, show Nat.blt i r.2.1 = true from Nat.ble_eq.mpr h2] at t5_w
          cases t5_w
        · exact i_iv_ok t5_w
    · rw [Bool.and_eq_true] at t1_w
      have e0 := Nat.eq_of_beq_eq_true t1_w.1
      have t2_w := List.all_eq_true.mp t1_w.2 (i - r.1) (List.mem_range.mpr (by omega))
      rw [show r.1 + (i - r.1) = i by omega] at t2_w
      rw [e0, Nat.zero_mul, Nat.zero_add]
      exact i_iv_ok t2_w
  · rw [ra_out (by omega)] at hr
    cases hr
theorem inv_i0 : Inv0 i0 := by
  obtain ⟨q1_w, q2_w, q3_w, q4_w, q5_w, q6_w, q7_w⟩ := i_188
  refine ⟨⟨i_HT, by rw [q6_w]; decide, by rw [q6_w]; decide, by rw [q6_w, q7_w]⟩, (0, 0), ⟨i_HT, fun k => ?_, i_AInv, ?_, ?_, ?_⟩, ?_, by rw [q5_w]; decide, by rw [q5_w]; decide⟩
  · by_cases z : k < 30
    · exact i_iv_ok (List.all_eq_true.mp i_fld_ok k (List.mem_range.mpr z))
    · have e : r_F k = (0, 0, 0) := by
        unfold r_F
        rw [List.getD_eq_getElem?_getD, List.getElem?_eq_none (by show 30 ≤ k; omega)]
        rfl
      show IV (0, 0) (r_F k) (i0 182 k)
      rw [e]
      exact trivial
  · exact ⟨fun m h => by have : (m : Int) < 0 := h; omega, fun m h => by have : (m : Int) < 0 := h; omega⟩
  · intro h
    rw [q3_w] at h
    exact absurd h (by decide)
  · intro m h
    rw [q4_w] at h
    omega
  · unfold DG
    rw [q1_w, q2_w]
    exact ⟨fun m h => by omega, fun m h => by omega⟩
end
