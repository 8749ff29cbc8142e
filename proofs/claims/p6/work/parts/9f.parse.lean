/-! ===== the reference's parser: its first steps_w ===== -/
def atp (h : XH) : XH := j_up h 182 7 (h 182 7 + 1)
def G194 (P : Int × Int) (N : Nat) (g : Nat × Nat) (F : XP) : Prop := ∀ (h : XH) (c : Int), PK P N h → InI c → ∃ h', F 194 [182, c] ((a_g3, g), h) = some (1, [], ((a_g3, g), h')) ∧ PA N h h' ∧ (tkS h c → h' = atp h) ∧ (¬tkS h c → h' 182 7 = h 182 7 ∧ h' 182 8 ≠ 0 ∧ (h 182 8 = 0 → h' 182 8 = 1 + 16 * h 185 (h 182 7).toNat))
def G195 (P : Int × Int) (N : Nat) (g : Nat × Nat) (F : XP) : Prop := ∀ (h : XH) (c : Int), PK P N h → InI c → ∃ v h', F 195 [182, c] ((a_g3, g), h) = some (1, [v], ((a_g3, g), h')) ∧ (v = 0 ∨ v = 1) ∧ (v ≠ 0 → tkS h c ∧ h' = atp h) ∧ (v = 0 → ¬tkS h c ∧ h' = h)
def G196 (P : Int × Int) (N : Nat) (g : Nat × Nat) (F : XP) : Prop := ∀ (h : XH) (w : Int), PK P N h → 0 ≤ w → w < 24 → ∃ v h', F 196 [182, w] ((a_g3, g), h) = some (1, [v], ((a_g3, g), h')) ∧ (v = 0 ∨ v = 1) ∧ (v ≠ 0 → tkW h w ∧ h' = atp h) ∧ (v = 0 → ¬tkW h w ∧ h' = h)
def G197 (P : Int × Int) (N : Nat) (g : Nat × Nat) (F : XP) : Prop := ∀ (h : XH) (w : Int), PK P N h → 0 ≤ w → w < 24 → ∃ h', F 197 [182, w] ((a_g3, g), h) = some (1, [], ((a_g3, g), h')) ∧ PA N h h' ∧ (tkW h w → h' = atp h) ∧ (¬tkW h w → h' 182 7 = h 182 7 ∧ h' 182 8 ≠ 0 ∧ (h 182 8 = 0 → h' 182 8 = 1 + 16 * h 185 (h 182 7).toNat))
def G200 (P : Int × Int) (N : Nat) (g : Nat × Nat) (F : XP) : Prop := ∀ (h : XH) (l u : Int), PK P N h → InI l → InI u → ∃ v h', F 200 [182, l, u] ((a_g3, g), h) = some (1, [v], ((a_g3, g), h')) ∧ PA N h h' ∧ InI v ∧ (h' 182 8 = 0 → l ≤ v ∧ v ≤ u ∧ h' = atp h ∧ h 182 8 = 0 ∧ h 184 (h 182 7).toNat = 2 ∧ v = h 186 (h 182 7).toNat) ∧ (h' 182 8 ≠ 0 → v = 0 ∧ h' 182 7 = h 182 7)
def G201 (P : Int × Int) (N : Nat) (g : Nat × Nat) (F : XP) : Prop := ∀ (h : XH) (a m : Int), PK P N h → 0 ≤ a → 0 ≤ m → a + m ≤ 24 → ∃ v, F 201 [182, a, m] ((a_g3, g), h) = some (1, [v], ((a_g3, g), h)) ∧ -1 ≤ v ∧ v < max m 1 ∧ (0 ≤ v → v < m ∧ tkW h (a + v)) ∧ (v = -1 → ∀ k, 0 ≤ k → k < m → ¬tkW h (a + k))
section PAR3
variable {P : Int × Int} {N : Nat} {g : Nat × Nat} {xs : Nat → Int} {L K n : Nat} {ck : Nat → List Nat} {cW : Nat → Nat → Int} {h : XH}
theorem jat (hp : PK P N h) : j_iop 0 (h 182 7) 1 = h 182 7 + 1 := by
  obtain ⟨q, ⟨p1_w, p2_w, p3_w, p4_w, p5_w, p6_w, p7_w⟩, d⟩ := hp
  exact jadd (by omega) (by omega)
theorem jat0 (hp : PK P N h) : j_iop 0 (h 182 7) 0 = h 182 7 := by
  obtain ⟨q, ⟨p1_w, p2_w, p3_w, p4_w, p5_w, p6_w, p7_w⟩, d⟩ := hp
  rw [jadd (by omega) (by omega)]
  omega
theorem tkS.pa {c : Int} (hp : PK P N h) (ht : tkS h c) : PA N h (atp h) := PA.next hp (by rw [ht.2.1]; decide)
theorem tkW.pa {c : Int} (hp : PK P N h) (ht : tkW h c) : PA N h (atp h) := PA.next hp (by rw [ht.2.1]; decide)
theorem g_194 (c192 : G192 P N g (evF xs L ck K cW g_M n)) (c191 : G191 P N g (evF xs L ck K cW g_M n)) : G194 P N g (evF xs L ck K cW g_M (n + 1)) := fun h c hp hc_w => by
  suffices hs : ∃ r h', evF xs L ck K cW g_M (n + 1) 194 [182, c] ((a_g3, g), h) = some (1, r, ((a_g3, g), h')) ∧ r = [] ∧ PA N h h' ∧ (tkS h c → h' = atp h) ∧ (¬tkS h c → h' 182 7 = h 182 7 ∧ h' 182 8 ≠ 0 ∧ (h 182 8 = 0 → h' 182 8 = 1 + 16 * h 185 (h 182 7).toNat)) by
    obtain ⟨r, h', e1_w, rfl, e2_w⟩ := hs
    exact ⟨h', e1_w, e2_w⟩
  refine tr_of gm_194 (B := fun r h' => r = [] ∧ PA N h h' ∧ (tkS h c → h' = atp h) ∧ (¬tkS h c → h' 182 7 = h 182 7 ∧ h' 182 8 ≠ 0 ∧ (h 182 8 = 0 → h' 182 8 = 1 + 16 * h 185 (h 182 7).toNat))) ?_
  show wS _ _ K bb_194 [182, c] h _
  generalize evF xs L ck K cW g_M n = F at c192 c191 ⊢
  unfold bb_194
  simp only [wf_4, wf_40, wf_5, wf_50, wf_6, wl_1, wt_1, wu_1, wa_1, wl_4, wt_4, wu_4, wa_4, wl_5, wt_5, wu_5, wa_5, wl_6, wt_6, wu_6, wa_6, wl_9, wt_9, wu_9, wa_9, wl_10, wt_10, wu_10, wa_10, wl_11, wt_11, wu_11, wa_11, wl_13, wt_13, wu_13, wa_13, wl_14, wt_14, wu_14, wa_14, wl_15, wt_15, wu_15, wa_15, wl_16, wt_16, wu_16, wa_16, wl_17, wt_17, wu_17, wa_17, wl_20, wt_20, wu_20, wa_20, wl_21, wt_21, wu_21, wa_21, wl_22, wt_22, wu_22, wa_22, wl_23, wt_23, wu_23, wa_23, wl_24, wt_24, wu_24, wa_24, wl_26, wt_26, wu_26, wa_26, wl_27, wt_27, wu_27, wa_27, wl_28, wt_28, wu_28, wa_28, we_1, we_3, we_10, we_14, we_15, we_16, we_17, we_18, we_20, we_21, we_22, we_24, we_25, we_26, we_27, we_28, we_30, we_31, we_32, wc_20, wc_21, wc_22, wc_24, wc_25, wc_26, wc_27, wc_3, wc_4, wc_7, wc_28, wc_32, ws_1, ws_2, ws_3, ws_4, ws_9, ws_10, ws_11, ws_14, ws_15, ws_16, ws_27, ws_17, ws_20, ws_28, kc_0, kc_1, kn_1, kc_2, kn_2, kc_3, kc_4, kc_5, kc_6, kc_7, kc_8, kc_9, kc_10, kc_12, kc_13, kc_14, kc_16, kc_17, kc_18, kc_19, kc_20, kc_21, kc_22, kc_24, kc_28, kc_30, kc_32, kc_37, kc_40, kc_41, kc_42, kc_43, kc_45, kc_48, kc_56, kc_57, kc_59, kc_60, kc_61, kc_64, kc_73, kc_78, kc_91, kc_95, kc_96, kc_97, kc_98, kc_99, kc_100, kc_112, kc_122, kc_125, kc_126, kc_150, kc_162, kc_163, kc_168, kc_186, kc_190, kc_200, kc_250, kc_255, kc_355, kc_356, kc_404, kc_405, kc_429, kc_573, kc_999, kc_1000, kc_1002, kc_1100, kc_1891, kc_2200, kc_4719, kc_4869, kc_4881, kc_5148, kc_9999, kn_9999, kc_10000, kc_12345, kc_19741, kc_25433, kc_65536, kc_320403, kc_628412, kc_629093, kc_660401, kc_679843, kc_918640, kc_979410, kc_1178088, kc_6232410, kc_24644941, kc_36238189, kc_38270444, kc_392531318, kc_425693491, kc_1103515245, kc_1342154595, kc_2147483648, kc_42328242873, kc_891704255789, kc_1722105685577, kc_1858726030364, ct_0, ct_1, ct_2, ct_3, ct_4, ct_5, cf_0, cf_1, cf_2, cf_3, cf_4, cf_5, w_ty6, w_ty7, m_sv, m_z0, m_hd, m_g0, m_gs, m_s0, m_ss, m_ap, m_an, forall_const, true_and, and_true, ne_eq, not_true_eq_false, not_false_eq_true, false_implies, true_implies, implies_true, eq_self, reduceCtorEq, Nat.reduceDiv, Nat.reduceMod, Int.reduceToNat, or_true, true_or, or_false, false_or, or_self, m_it, m_if, m_c1, m_01, m_02, m_03, m_04, m_10, m_12, m_13, m_14, m_20, m_21, m_23, m_24, m_30, m_31, m_32, m_34, m_40, m_41, m_42, m_43]
  obtain ⟨v, e1_w, e2_w, e3_w⟩ := c192 h c hp hc_w
  refine ⟨[v], h, e1_w, fun k => ?_, fun k => ?_⟩
  · have ht := e3_w.mp k
    rw [jat hp]
    exact ⟨tkS.pa hp ht, fun _ => rfl, fun k2 => absurd ht k2⟩
  · obtain ⟨h', f1_w, f2_w, f3_w, f4_w, f5_w⟩ := c191 h 1 hp (by decide) (by decide)
    have hn : ¬tkS h c := fun z => absurd k (e3_w.mpr z)
    exact ⟨[], h', f1_w, f2_w, fun z => absurd z hn, fun _ => ⟨f3_w, f4_w, f5_w⟩⟩
theorem g_195 (c192 : G192 P N g (evF xs L ck K cW g_M n)) : G195 P N g (evF xs L ck K cW g_M (n + 1)) := fun h c hp hc_w => by
  suffices hs : ∃ r h', evF xs L ck K cW g_M (n + 1) 195 [182, c] ((a_g3, g), h) = some (1, r, ((a_g3, g), h')) ∧ ∃ v, r = [v] ∧ (v = 0 ∨ v = 1) ∧ (v ≠ 0 → tkS h c ∧ h' = atp h) ∧ (v = 0 → ¬tkS h c ∧ h' = h) by
    obtain ⟨r, h', e1_w, v, rfl, e2_w⟩ := hs
    exact ⟨v, h', e1_w, e2_w⟩
  refine tr_of gm_195 (B := fun r h' => ∃ v, r = [v] ∧ (v = 0 ∨ v = 1) ∧ (v ≠ 0 → tkS h c ∧ h' = atp h) ∧ (v = 0 → ¬tkS h c ∧ h' = h)) ?_
  show wS _ _ K bb_195 [182, c, 0] h _
  generalize evF xs L ck K cW g_M n = F at c192 ⊢
  unfold bb_195
  simp only [wf_4, wf_40, wf_5, wf_50, wf_6, wl_1, wt_1, wu_1, wa_1, wl_4, wt_4, wu_4, wa_4, wl_5, wt_5, wu_5, wa_5, wl_6, wt_6, wu_6, wa_6, wl_9, wt_9, wu_9, wa_9, wl_10, wt_10, wu_10, wa_10, wl_11, wt_11, wu_11, wa_11, wl_13, wt_13, wu_13, wa_13, wl_14, wt_14, wu_14, wa_14, wl_15, wt_15, wu_15, wa_15, wl_16, wt_16, wu_16, wa_16, wl_17, wt_17, wu_17, wa_17, wl_20, wt_20, wu_20, wa_20, wl_21, wt_21, wu_21, wa_21, wl_22, wt_22, wu_22, wa_22, wl_23, wt_23, wu_23, wa_23, wl_24, wt_24, wu_24, wa_24, wl_26, wt_26, wu_26, wa_26, wl_27, wt_27, wu_27, wa_27, wl_28, wt_28, wu_28, wa_28, we_1, we_3, we_10, we_14, we_15, we_16, we_17, we_18, we_20, we_21, we_22, we_24, we_25, we_26, we_27, we_28, we_30, we_31, we_32, wc_20, wc_21, wc_22, wc_24, wc_25, wc_26, wc_27, wc_3, wc_4, wc_7, wc_28, wc_32, ws_1, ws_2, ws_3, ws_4, ws_9, ws_10, ws_11, ws_14, ws_15, ws_16, ws_27, ws_17, ws_20, ws_28, kc_0, kc_1, kn_1, kc_2, kn_2, kc_3, kc_4, kc_5, kc_6, kc_7, kc_8, kc_9, kc_10, kc_12, kc_13, kc_14, kc_16, kc_17, kc_18, kc_19, kc_20, kc_21, kc_22, kc_24, kc_28, kc_30, kc_32, kc_37, kc_40, kc_41, kc_42, kc_43, kc_45, kc_48, kc_56, kc_57, kc_59, kc_60, kc_61, kc_64, kc_73, kc_78, kc_91, kc_95, kc_96, kc_97, kc_98, kc_99, kc_100, kc_112, kc_122, kc_125, kc_126, kc_150, kc_162, kc_163, kc_168, kc_186, kc_190, kc_200, kc_250, kc_255, kc_355, kc_356, kc_404, kc_405, kc_429, kc_573, kc_999, kc_1000, kc_1002, kc_1100, kc_1891, kc_2200, kc_4719, kc_4869, kc_4881, kc_5148, kc_9999, kn_9999, kc_10000, kc_12345, kc_19741, kc_25433, kc_65536, kc_320403, kc_628412, kc_629093, kc_660401, kc_679843, kc_918640, kc_979410, kc_1178088, kc_6232410, kc_24644941, kc_36238189, kc_38270444, kc_392531318, kc_425693491, kc_1103515245, kc_1342154595, kc_2147483648, kc_42328242873, kc_891704255789, kc_1722105685577, kc_1858726030364, ct_0, ct_1, ct_2, ct_3, ct_4, ct_5, cf_0, cf_1, cf_2, cf_3, cf_4, cf_5, w_ty6, w_ty7, m_sv, m_z0, m_hd, m_g0, m_gs, m_s0, m_ss, m_ap, m_an, forall_const, true_and, and_true, ne_eq, not_true_eq_false, not_false_eq_true, false_implies, true_implies, implies_true, eq_self, reduceCtorEq, Nat.reduceDiv, Nat.reduceMod, Int.reduceToNat, or_true, true_or, or_false, false_or, or_self, m_it, m_if, m_c1, m_01, m_02, m_03, m_04, m_10, m_12, m_13, m_14, m_20, m_21, m_23, m_24, m_30, m_31, m_32, m_34, m_40, m_41, m_42, m_43]
  obtain ⟨v, e1_w, e2_w, e3_w⟩ := c192 h c hp hc_w
  exact ⟨[v], h, e1_w, fun k => ⟨e2_w, v, rfl, e2_w, fun _ => ⟨e3_w.mp k, by rw [jat hp]; rfl⟩, fun k2 => absurd k2 k⟩, fun k => ⟨e2_w, v, rfl, e2_w, fun k2 => absurd k k2, fun _ => ⟨fun z => absurd k (e3_w.mpr z), by rw [jat0 hp, up_self]⟩⟩⟩
theorem g_196 (c193 : G193 P N g (evF xs L ck K cW g_M n)) : G196 P N g (evF xs L ck K cW g_M (n + 1)) := fun h c hp c0 c1_w => by
  suffices hs : ∃ r h', evF xs L ck K cW g_M (n + 1) 196 [182, c] ((a_g3, g), h) = some (1, r, ((a_g3, g), h')) ∧ ∃ v, r = [v] ∧ (v = 0 ∨ v = 1) ∧ (v ≠ 0 → tkW h c ∧ h' = atp h) ∧ (v = 0 → ¬tkW h c ∧ h' = h) by
    obtain ⟨r, h', e1_w, v, rfl, e2_w⟩ := hs
    exact ⟨v, h', e1_w, e2_w⟩
  refine tr_of gm_196 (B := fun r h' => ∃ v, r = [v] ∧ (v = 0 ∨ v = 1) ∧ (v ≠ 0 → tkW h c ∧ h' = atp h) ∧ (v = 0 → ¬tkW h c ∧ h' = h)) ?_
  show wS _ _ K bb_196 [182, c, 0] h _
  generalize evF xs L ck K cW g_M n = F at c193 ⊢
  unfold bb_196
  simp only [wf_4, wf_40, wf_5, wf_50, wf_6, wl_1, wt_1, wu_1, wa_1, wl_4, wt_4, wu_4, wa_4, wl_5, wt_5, wu_5, wa_5, wl_6, wt_6, wu_6, wa_6, wl_9, wt_9, wu_9, wa_9, wl_10, wt_10, wu_10, wa_10, wl_11, wt_11, wu_11, wa_11, wl_13, wt_13, wu_13, wa_13, wl_14, wt_14, wu_14, wa_14, wl_15, wt_15, wu_15, wa_15, wl_16, wt_16, wu_16, wa_16, wl_17, wt_17, wu_17, wa_17, wl_20, wt_20, wu_20, wa_20, wl_21, wt_21, wu_21, wa_21, wl_22, wt_22, wu_22, wa_22, wl_23, wt_23, wu_23, wa_23, wl_24, wt_24, wu_24, wa_24, wl_26, wt_26, wu_26, wa_26, wl_27, wt_27, wu_27, wa_27, wl_28, wt_28, wu_28, wa_28, we_1, we_3, we_10, we_14, we_15, we_16, we_17, we_18, we_20, we_21, we_22, we_24, we_25, we_26, we_27, we_28, we_30, we_31, we_32, wc_20, wc_21, wc_22, wc_24, wc_25, wc_26, wc_27, wc_3, wc_4, wc_7, wc_28, wc_32, ws_1, ws_2, ws_3, ws_4, ws_9, ws_10, ws_11, ws_14, ws_15, ws_16, ws_27, ws_17, ws_20, ws_28, kc_0, kc_1, kn_1, kc_2, kn_2, kc_3, kc_4, kc_5, kc_6, kc_7, kc_8, kc_9, kc_10, kc_12, kc_13, kc_14, kc_16, kc_17, kc_18, kc_19, kc_20, kc_21, kc_22, kc_24, kc_28, kc_30, kc_32, kc_37, kc_40, kc_41, kc_42, kc_43, kc_45, kc_48, kc_56, kc_57, kc_59, kc_60, kc_61, kc_64, kc_73, kc_78, kc_91, kc_95, kc_96, kc_97, kc_98, kc_99, kc_100, kc_112, kc_122, kc_125, kc_126, kc_150, kc_162, kc_163, kc_168, kc_186, kc_190, kc_200, kc_250, kc_255, kc_355, kc_356, kc_404, kc_405, kc_429, kc_573, kc_999, kc_1000, kc_1002, kc_1100, kc_1891, kc_2200, kc_4719, kc_4869, kc_4881, kc_5148, kc_9999, kn_9999, kc_10000, kc_12345, kc_19741, kc_25433, kc_65536, kc_320403, kc_628412, kc_629093, kc_660401, kc_679843, kc_918640, kc_979410, kc_1178088, kc_6232410, kc_24644941, kc_36238189, kc_38270444, kc_392531318, kc_425693491, kc_1103515245, kc_1342154595, kc_2147483648, kc_42328242873, kc_891704255789, kc_1722105685577, kc_1858726030364, ct_0, ct_1, ct_2, ct_3, ct_4, ct_5, cf_0, cf_1, cf_2, cf_3, cf_4, cf_5, w_ty6, w_ty7, m_sv, m_z0, m_hd, m_g0, m_gs, m_s0, m_ss, m_ap, m_an, forall_const, true_and, and_true, ne_eq, not_true_eq_false, not_false_eq_true, false_implies, true_implies, implies_true, eq_self, reduceCtorEq, Nat.reduceDiv, Nat.reduceMod, Int.reduceToNat, or_true, true_or, or_false, false_or, or_self, m_it, m_if, m_c1, m_01, m_02, m_03, m_04, m_10, m_12, m_13, m_14, m_20, m_21, m_23, m_24, m_30, m_31, m_32, m_34, m_40, m_41, m_42, m_43]
  obtain ⟨v, e1_w, e2_w, e3_w⟩ := c193 h c hp c0 c1_w
  exact ⟨[v], h, e1_w, fun k => ⟨e2_w, v, rfl, e2_w, fun _ => ⟨e3_w.mp k, by rw [jat hp]; rfl⟩, fun k2 => absurd k2 k⟩, fun k => ⟨e2_w, v, rfl, e2_w, fun k2 => absurd k k2, fun _ => ⟨fun z => absurd k (e3_w.mpr z), by rw [jat0 hp, up_self]⟩⟩⟩
theorem g_197 (c196 : G196 P N g (evF xs L ck K cW g_M n)) (c191 : G191 P N g (evF xs L ck K cW g_M n)) : G197 P N g (evF xs L ck K cW g_M (n + 1)) := fun h c hp c0 c1_w => by
  suffices hs : ∃ r h', evF xs L ck K cW g_M (n + 1) 197 [182, c] ((a_g3, g), h) = some (1, r, ((a_g3, g), h')) ∧ r = [] ∧ PA N h h' ∧ (tkW h c → h' = atp h) ∧ (¬tkW h c → h' 182 7 = h 182 7 ∧ h' 182 8 ≠ 0 ∧ (h 182 8 = 0 → h' 182 8 = 1 + 16 * h 185 (h 182 7).toNat)) by
    obtain ⟨r, h', e1_w, rfl, e2_w⟩ := hs
    exact ⟨h', e1_w, e2_w⟩
  refine tr_of gm_197 (B := fun r h' => r = [] ∧ PA N h h' ∧ (tkW h c → h' = atp h) ∧ (¬tkW h c → h' 182 7 = h 182 7 ∧ h' 182 8 ≠ 0 ∧ (h 182 8 = 0 → h' 182 8 = 1 + 16 * h 185 (h 182 7).toNat))) ?_
  show wS _ _ K bb_197 [182, c] h _
  generalize evF xs L ck K cW g_M n = F at c196 c191 ⊢
  unfold bb_197
  simp only [wf_4, wf_40, wf_5, wf_50, wf_6, wl_1, wt_1, wu_1, wa_1, wl_4, wt_4, wu_4, wa_4, wl_5, wt_5, wu_5, wa_5, wl_6, wt_6, wu_6, wa_6, wl_9, wt_9, wu_9, wa_9, wl_10, wt_10, wu_10, wa_10, wl_11, wt_11, wu_11, wa_11, wl_13, wt_13, wu_13, wa_13, wl_14, wt_14, wu_14, wa_14, wl_15, wt_15, wu_15, wa_15, wl_16, wt_16, wu_16, wa_16, wl_17, wt_17, wu_17, wa_17, wl_20, wt_20, wu_20, wa_20, wl_21, wt_21, wu_21, wa_21, wl_22, wt_22, wu_22, wa_22, wl_23, wt_23, wu_23, wa_23, wl_24, wt_24, wu_24, wa_24, wl_26, wt_26, wu_26, wa_26, wl_27, wt_27, wu_27, wa_27, wl_28, wt_28, wu_28, wa_28, we_1, we_3, we_10, we_14, we_15, we_16, we_17, we_18, we_20, we_21, we_22, we_24, we_25, we_26, we_27, we_28, we_30, we_31, we_32, wc_20, wc_21, wc_22, wc_24, wc_25, wc_26, wc_27, wc_3, wc_4, wc_7, wc_28, wc_32, ws_1, ws_2, ws_3, ws_4, ws_9, ws_10, ws_11, ws_14, ws_15, ws_16, ws_27, ws_17, ws_20, ws_28, kc_0, kc_1, kn_1, kc_2, kn_2, kc_3, kc_4, kc_5, kc_6, kc_7, kc_8, kc_9, kc_10, kc_12, kc_13, kc_14, kc_16, kc_17, kc_18, kc_19, kc_20, kc_21, kc_22, kc_24, kc_28, kc_30, kc_32, kc_37, kc_40, kc_41, kc_42, kc_43, kc_45, kc_48, kc_56, kc_57, kc_59, kc_60, kc_61, kc_64, kc_73, kc_78, kc_91, kc_95, kc_96, kc_97, kc_98, kc_99, kc_100, kc_112, kc_122, kc_125, kc_126, kc_150, kc_162, kc_163, kc_168, kc_186, kc_190, kc_200, kc_250, kc_255, kc_355, kc_356, kc_404, kc_405, kc_429, kc_573, kc_999, kc_1000, kc_1002, kc_1100, kc_1891, kc_2200, kc_4719, kc_4869, kc_4881, kc_5148, kc_9999, kn_9999, kc_10000, kc_12345, kc_19741, kc_25433, kc_65536, kc_320403, kc_628412, kc_629093, kc_660401, kc_679843, kc_918640, kc_979410, kc_1178088, kc_6232410, kc_24644941, kc_36238189, kc_38270444, kc_392531318, kc_425693491, kc_1103515245, kc_1342154595, kc_2147483648, kc_42328242873, kc_891704255789, kc_1722105685577, kc_1858726030364, ct_0, ct_1, ct_2, ct_3, ct_4, ct_5, cf_0, cf_1, cf_2, cf_3, cf_4, cf_5, w_ty6, w_ty7, m_sv, m_z0, m_hd, m_g0, m_gs, m_s0, m_ss, m_ap, m_an, forall_const, true_and, and_true, ne_eq, not_true_eq_false, not_false_eq_true, false_implies, true_implies, implies_true, eq_self, reduceCtorEq, Nat.reduceDiv, Nat.reduceMod, Int.reduceToNat, or_true, true_or, or_false, false_or, or_self, m_it, m_if, m_c1, m_01, m_02, m_03, m_04, m_10, m_12, m_13, m_14, m_20, m_21, m_23, m_24, m_30, m_31, m_32, m_34, m_40, m_41, m_42, m_43]
  obtain ⟨v, h2, e1_w, e2_w, e3_w, e4_w⟩ := c196 h c hp c0 c1_w
  refine ⟨[v], h2, e1_w, fun k => ?_, fun k => ?_⟩
  · obtain ⟨ht, rfl⟩ := e3_w k
    exact ⟨tkW.pa hp ht, fun _ => rfl, fun k2 => absurd ht k2⟩
  · obtain ⟨hn, rfl⟩ := e4_w k
    obtain ⟨h', f1_w, f2_w, f3_w, f4_w, f5_w⟩ := c191 h2 1 hp (by decide) (by decide)
    exact ⟨[], h', f1_w, f2_w, fun z => absurd z hn, fun _ => ⟨f3_w, f4_w, f5_w⟩⟩
def B200 (N : Nat) (h : XH) (l u : Int) (r : List Int) (h' : XH) : Prop := ∃ v, r = [v] ∧ PA N h h' ∧ InI v ∧ (h' 182 8 = 0 → l ≤ v ∧ v ≤ u ∧ h' = atp h ∧ h 182 8 = 0 ∧ h 184 (h 182 7).toNat = 2 ∧ v = h 186 (h 182 7).toNat) ∧ (h' 182 8 ≠ 0 → v = 0 ∧ h' 182 7 = h 182 7)
theorem g_200 (c191 : G191 P N g (evF xs L ck K cW g_M n)) : G200 P N g (evF xs L ck K cW g_M (n + 1)) := fun h l u hp hl hu => by
  suffices hs : ∃ r h', evF xs L ck K cW g_M (n + 1) 200 [182, l, u] ((a_g3, g), h) = some (1, r, ((a_g3, g), h')) ∧ B200 N h l u r h' by
    obtain ⟨r, h', e1_w, v, rfl, e2_w⟩ := hs
    exact ⟨v, h', e1_w, e2_w⟩
  refine tr_of gm_200 ?_
  show wS _ _ K bb_200 [182, l, u] h _
  generalize evF xs L ck K cW g_M n = F at c191 ⊢
  unfold bb_200
  simp only [wf_4, wf_40, wf_5, wf_50, wf_6, wl_1, wt_1, wu_1, wa_1, wl_4, wt_4, wu_4, wa_4, wl_5, wt_5, wu_5, wa_5, wl_6, wt_6, wu_6, wa_6, wl_9, wt_9, wu_9, wa_9, wl_10, wt_10, wu_10, wa_10, wl_11, wt_11, wu_11, wa_11, wl_13, wt_13, wu_13, wa_13, wl_14, wt_14, wu_14, wa_14, wl_15, wt_15, wu_15, wa_15, wl_16, wt_16, wu_16, wa_16, wl_17, wt_17, wu_17, wa_17, wl_20, wt_20, wu_20, wa_20, wl_21, wt_21, wu_21, wa_21, wl_22, wt_22, wu_22, wa_22, wl_23, wt_23, wu_23, wa_23, wl_24, wt_24, wu_24, wa_24, wl_26, wt_26, wu_26, wa_26, wl_27, wt_27, wu_27, wa_27, wl_28, wt_28, wu_28, wa_28, we_1, we_3, we_10, we_14, we_15, we_16, we_17, we_18, we_20, we_21, we_22, we_24, we_25, we_26, we_27, we_28, we_30, we_31, we_32, wc_20, wc_21, wc_22, wc_24, wc_25, wc_26, wc_27, wc_3, wc_4, wc_7, wc_28, wc_32, ws_1, ws_2, ws_3, ws_4, ws_9, ws_10, ws_11, ws_14, ws_15, ws_16, ws_27, ws_17, ws_20, ws_28, kc_0, kc_1, kn_1, kc_2, kn_2, kc_3, kc_4, kc_5, kc_6, kc_7, kc_8, kc_9, kc_10, kc_12, kc_13, kc_14, kc_16, kc_17, kc_18, kc_19, kc_20, kc_21, kc_22, kc_24, kc_28, kc_30, kc_32, kc_37, kc_40, kc_41, kc_42, kc_43, kc_45, kc_48, kc_56, kc_57, kc_59, kc_60, kc_61, kc_64, kc_73, kc_78, kc_91, kc_95, kc_96, kc_97, kc_98, kc_99, kc_100, kc_112, kc_122, kc_125, kc_126, kc_150, kc_162, kc_163, kc_168, kc_186, kc_190, kc_200, kc_250, kc_255, kc_355, kc_356, kc_404, kc_405, kc_429, kc_573, kc_999, kc_1000, kc_1002, kc_1100, kc_1891, kc_2200, kc_4719, kc_4869, kc_4881, kc_5148, kc_9999, kn_9999, kc_10000, kc_12345, kc_19741, kc_25433, kc_65536, kc_320403, kc_628412, kc_629093, kc_660401, kc_679843, kc_918640, kc_979410, kc_1178088, kc_6232410, kc_24644941, kc_36238189, kc_38270444, kc_392531318, kc_425693491, kc_1103515245, kc_1342154595, kc_2147483648, kc_42328242873, kc_891704255789, kc_1722105685577, kc_1858726030364, ct_0, ct_1, ct_2, ct_3, ct_4, ct_5, cf_0, cf_1, cf_2, cf_3, cf_4, cf_5, w_ty6, w_ty7, m_sv, m_z0, m_hd, m_g0, m_gs, m_s0, m_ss, m_ap, m_an, forall_const, true_and, and_true, ne_eq, not_true_eq_false, not_false_eq_true, false_implies, true_implies, implies_true, eq_self, reduceCtorEq, Nat.reduceDiv, Nat.reduceMod, Int.reduceToNat, or_true, true_or, or_false, false_or, or_self, m_it, m_if, m_c1, m_01, m_02, m_03, m_04, m_10, m_12, m_13, m_14, m_20, m_21, m_23, m_24, m_30, m_31, m_32, m_34, m_40, m_41, m_42, m_43]
  have wr_w : ∀ (w : Int) (X : XH → Prop), 1 ≤ w → w ≤ 5 → ∃ r h2, F 191 [182, w] ((a_g3, g), h) = some (1, r, ((a_g3, g), h2)) ∧ (h2 182 8 > 0 → B200 N h l u [0] h2) ∧ (h2 182 8 ≤ 0 → X h2) := fun w X w1_w w2_w => by
    obtain ⟨h', f1_w, f2_w, f3_w, f4_w, f5_w⟩ := c191 h w hp w1_w w2_w
    have f6_w := f2_w.2.1
    exact ⟨[], h', f1_w, fun _ => ⟨0, rfl, f2_w, in_0, fun z => absurd z f4_w, fun _ => ⟨rfl, f3_w⟩⟩, fun z => by omega⟩
  have rf := PA.rf hp
  have hp2 := hp
  obtain ⟨q, ⟨p1_w, p2_w, p3_w, p4_w, p5_w, p6_w, p7_w⟩, d⟩ := hp2
  have ba_w : 0 ≤ h 182 7 ∧ h 182 7 < 1002 := ⟨p2_w, by omega⟩
  refine ⟨fun k1_w => ⟨ba_w, fun k2 => wr_w 1 _ (by decide) (by decide), fun k2 => ⟨fun _ => ⟨ba_w, fun k3 => wr_w 4 _ (by decide) (by decide), fun k3 => ⟨ba_w, fun k4 => wr_w 4 _ (by decide) (by decide), fun k4 => ⟨fun z => by omega, fun _ => ?_⟩⟩⟩, fun z => absurd k1_w z⟩⟩, fun k1_w => ⟨fun z => absurd z k1_w, fun _ => ⟨fun _ => ⟨0, rfl, rf, in_0, fun z => absurd z k1_w, fun _ => ⟨rfl, rfl⟩⟩, fun z => by omega⟩⟩⟩
  have k3 : l ≤ h 186 (h 182 7).toNat := k3
  have k4 : h 186 (h 182 7).toNat ≤ u := k4
  rw [jat hp, up_eq]
  have e1_w : j_iop 1 (h 182 7 + 1) 1 = h 182 7 := by rw [jsub (by omega) (by omega)]; omega
  rw [e1_w, up_ne (fun z => absurd z.1 (by decide))]
  have hin : InI (h 186 (h 182 7).toNat) := by
    unfold InI at hl hu ⊢
    omega
  have e2_w : j_un 3 (h 186 (h 182 7).toNat) = h 186 (h 182 7).toNat := j32_in hin
  rw [e2_w]
  refine ⟨ba_w, _, rfl, PA.next hp (by rw [k2]; decide), hin, fun _ => ⟨k3, k4, rfl, k1_w, k2, rfl⟩, fun z => absurd ?_ z⟩
  rw [up_ne (fun z => absurd z.2 (by decide))]
  exact k1_w
theorem g_201 (hK_w : 4294967300 ≤ K) (c193 : G193 P N g (evF xs L ck K cW g_M n)) : G201 P N g (evF xs L ck K cW g_M (n + 1)) := fun h a m hp a0_w m0_w am => by
  suffices hs : ∃ r h', evF xs L ck K cW g_M (n + 1) 201 [182, a, m] ((a_g3, g), h) = some (1, r, ((a_g3, g), h')) ∧ h' = h ∧ ∃ v, r = [v] ∧ -1 ≤ v ∧ v < max m 1 ∧ (0 ≤ v → v < m ∧ tkW h (a + v)) ∧ (v = -1 → ∀ k, 0 ≤ k → k < m → ¬tkW h (a + k)) by
    obtain ⟨r, h', e1_w, rfl, v, rfl, e2_w⟩ := hs
    exact ⟨v, e1_w, e2_w⟩
  refine tr_of gm_201 (B := fun r h' => h' = h ∧ ∃ v, r = [v] ∧ -1 ≤ v ∧ v < max m 1 ∧ (0 ≤ v → v < m ∧ tkW h (a + v)) ∧ (v = -1 → ∀ k, 0 ≤ k → k < m → ¬tkW h (a + k))) ?_
  show wS _ _ K bb_201 [182, a, m, 0, 0] h _
  generalize evF xs L ck K cW g_M n = F at c193 ⊢
  unfold bb_201
  simp only [wf_4, wf_40, wf_5, wf_50, wf_6, wl_1, wt_1, wu_1, wa_1, wl_4, wt_4, wu_4, wa_4, wl_5, wt_5, wu_5, wa_5, wl_6, wt_6, wu_6, wa_6, wl_9, wt_9, wu_9, wa_9, wl_10, wt_10, wu_10, wa_10, wl_11, wt_11, wu_11, wa_11, wl_13, wt_13, wu_13, wa_13, wl_14, wt_14, wu_14, wa_14, wl_15, wt_15, wu_15, wa_15, wl_16, wt_16, wu_16, wa_16, wl_17, wt_17, wu_17, wa_17, wl_20, wt_20, wu_20, wa_20, wl_21, wt_21, wu_21, wa_21, wl_22, wt_22, wu_22, wa_22, wl_23, wt_23, wu_23, wa_23, wl_24, wt_24, wu_24, wa_24, wl_26, wt_26, wu_26, wa_26, wl_27, wt_27, wu_27, wa_27, wl_28, wt_28, wu_28, wa_28, we_1, we_3, we_10, we_14, we_15, we_16, we_17, we_18, we_20, we_21, we_22, we_24, we_25, we_26, we_27, we_28, we_30, we_31, we_32, wc_20, wc_21, wc_22, wc_24, wc_25, wc_26, wc_27, wc_3, wc_4, wc_7, wc_28, wc_32, ws_1, ws_2, ws_3, ws_4, ws_9, ws_10, ws_11, ws_14, ws_15, ws_16, ws_27, ws_17, ws_20, ws_28, kc_0, kc_1, kn_1, kc_2, kn_2, kc_3, kc_4, kc_5, kc_6, kc_7, kc_8, kc_9, kc_10, kc_12, kc_13, kc_14, kc_16, kc_17, kc_18, kc_19, kc_20, kc_21, kc_22, kc_24, kc_28, kc_30, kc_32, kc_37, kc_40, kc_41, kc_42, kc_43, kc_45, kc_48, kc_56, kc_57, kc_59, kc_60, kc_61, kc_64, kc_73, kc_78, kc_91, kc_95, kc_96, kc_97, kc_98, kc_99, kc_100, kc_112, kc_122, kc_125, kc_126, kc_150, kc_162, kc_163, kc_168, kc_186, kc_190, kc_200, kc_250, kc_255, kc_355, kc_356, kc_404, kc_405, kc_429, kc_573, kc_999, kc_1000, kc_1002, kc_1100, kc_1891, kc_2200, kc_4719, kc_4869, kc_4881, kc_5148, kc_9999, kn_9999, kc_10000, kc_12345, kc_19741, kc_25433, kc_65536, kc_320403, kc_628412, kc_629093, kc_660401, kc_679843, kc_918640, kc_979410, kc_1178088, kc_6232410, kc_24644941, kc_36238189, kc_38270444, kc_392531318, kc_425693491, kc_1103515245, kc_1342154595, kc_2147483648, kc_42328242873, kc_891704255789, kc_1722105685577, kc_1858726030364, ct_0, ct_1, ct_2, ct_3, ct_4, ct_5, cf_0, cf_1, cf_2, cf_3, cf_4, cf_5, w_ty6, w_ty7, m_sv, m_z0, m_hd, m_g0, m_gs, m_s0, m_ss, m_ap, m_an, forall_const, true_and, and_true, ne_eq, not_true_eq_false, not_false_eq_true, false_implies, true_implies, implies_true, eq_self, reduceCtorEq, Nat.reduceDiv, Nat.reduceMod, Int.reduceToNat, or_true, true_or, or_false, false_or, or_self, m_it, m_if, m_c1, m_01, m_02, m_03, m_04, m_10, m_12, m_13, m_14, m_20, m_21, m_23, m_24, m_30, m_31, m_32, m_34, m_40, m_41, m_42, m_43]
  refine w_lp (fun en h' => ∃ v k : Int, en = [182, a, m, v, k] ∧ 0 ≤ k ∧ k ≤ m ∧ -1 ≤ v ∧ (0 ≤ v → v < k ∧ tkW h (a + v)) ∧ (v = -1 → ∀ i, 0 ≤ i → i < k → ¬tkW h (a + i)) ∧ h' = h) (fun en _ => (m - en.getD 4 0).toNat) ⟨-1, 0, rfl, by omega, by omega, by omega, fun z => absurd z (by decide), fun _ i i0 i1_w => by omega, rfl⟩ ?_
  rintro en h1 ⟨v, k, rfl, k0_w, k1_w, v0_w, v1_w, v2, rfl⟩
  refine ⟨?_, ?_⟩
  · show (m - k).toNat < K
    omega
  simp only [wf_4, wf_40, wf_5, wf_50, wf_6, wl_1, wt_1, wu_1, wa_1, wl_4, wt_4, wu_4, wa_4, wl_5, wt_5, wu_5, wa_5, wl_6, wt_6, wu_6, wa_6, wl_9, wt_9, wu_9, wa_9, wl_10, wt_10, wu_10, wa_10, wl_11, wt_11, wu_11, wa_11, wl_13, wt_13, wu_13, wa_13, wl_14, wt_14, wu_14, wa_14, wl_15, wt_15, wu_15, wa_15, wl_16, wt_16, wu_16, wa_16, wl_17, wt_17, wu_17, wa_17, wl_20, wt_20, wu_20, wa_20, wl_21, wt_21, wu_21, wa_21, wl_22, wt_22, wu_22, wa_22, wl_23, wt_23, wu_23, wa_23, wl_24, wt_24, wu_24, wa_24, wl_26, wt_26, wu_26, wa_26, wl_27, wt_27, wu_27, wa_27, wl_28, wt_28, wu_28, wa_28, we_1, we_3, we_10, we_14, we_15, we_16, we_17, we_18, we_20, we_21, we_22, we_24, we_25, we_26, we_27, we_28, we_30, we_31, we_32, wc_20, wc_21, wc_22, wc_24, wc_25, wc_26, wc_27, wc_3, wc_4, wc_7, wc_28, wc_32, ws_1, ws_2, ws_3, ws_4, ws_9, ws_10, ws_11, ws_14, ws_15, ws_16, ws_27, ws_17, ws_20, ws_28, kc_0, kc_1, kn_1, kc_2, kn_2, kc_3, kc_4, kc_5, kc_6, kc_7, kc_8, kc_9, kc_10, kc_12, kc_13, kc_14, kc_16, kc_17, kc_18, kc_19, kc_20, kc_21, kc_22, kc_24, kc_28, kc_30, kc_32, kc_37, kc_40, kc_41, kc_42, kc_43, kc_45, kc_48, kc_56, kc_57, kc_59, kc_60, kc_61, kc_64, kc_73, kc_78, kc_91, kc_95, kc_96, kc_97, kc_98, kc_99, kc_100, kc_112, kc_122, kc_125, kc_126, kc_150, kc_162, kc_163, kc_168, kc_186, kc_190, kc_200, kc_250, kc_255, kc_355, kc_356, kc_404, kc_405, kc_429, kc_573, kc_999, kc_1000, kc_1002, kc_1100, kc_1891, kc_2200, kc_4719, kc_4869, kc_4881, kc_5148, kc_9999, kn_9999, kc_10000, kc_12345, kc_19741, kc_25433, kc_65536, kc_320403, kc_628412, kc_629093, kc_660401, kc_679843, kc_918640, kc_979410, kc_1178088, kc_6232410, kc_24644941, kc_36238189, kc_38270444, kc_392531318, kc_425693491, kc_1103515245, kc_1342154595, kc_2147483648, kc_42328242873, kc_891704255789, kc_1722105685577, kc_1858726030364, ct_0, ct_1, ct_2, ct_3, ct_4, ct_5, cf_0, cf_1, cf_2, cf_3, cf_4, cf_5, w_ty6, w_ty7, m_sv, m_z0, m_hd, m_g0, m_gs, m_s0, m_ss, m_ap, m_an, forall_const, true_and, and_true, ne_eq, not_true_eq_false, not_false_eq_true, false_implies, true_implies, implies_true, eq_self, reduceCtorEq, Nat.reduceDiv, Nat.reduceMod, Int.reduceToNat, or_true, true_or, or_false, false_or, or_self, m_it, m_if, m_c1, m_01, m_02, m_03, m_04, m_10, m_12, m_13, m_14, m_20, m_21, m_23, m_24, m_30, m_31, m_32, m_34, m_40, m_41, m_42, m_43]
  refine ⟨fun hk => ?_, fun hk => ⟨v, rfl, v0_w, ?_, fun z => ?_, fun z i i0 i1_w => v2 z i i0 (by omega)⟩⟩
  · rw [jadd (x := a) (y := k) (by omega) (by omega), jinc (by omega) (by omega)]
    obtain ⟨w, e1_w, e2_w, e3_w⟩ := c193 h1 (a + k) hp (by omega) (by omega)
    refine ⟨[w], h1, e1_w, fun z => ⟨⟨k, k + 1, rfl, by omega, by omega, by omega, fun _ => ⟨by omega, e3_w.mp z⟩, fun z2 => by omega, rfl⟩, ?_⟩, fun z => ⟨⟨v, k + 1, rfl, by omega, by omega, v0_w, fun z2 => ⟨by have := (v1_w z2).1; omega, (v1_w z2).2⟩, fun z2 i i0 i1_w => ?_, rfl⟩, ?_⟩⟩
    · show (m - (k + 1)).toNat < (m - k).toNat
      omega
    · by_cases e : i = k
      · subst e
        exact fun z3 => absurd z (e3_w.mpr z3)
      · exact v2 z2 i i0 (by omega)
    · show (m - (k + 1)).toNat < (m - k).toNat
      omega
  · by_cases z : 0 ≤ v
    · have := (v1_w z).1
      omega
    · omega
  · have := v1_w z
    exact ⟨by omega, this.2⟩
end PAR3
