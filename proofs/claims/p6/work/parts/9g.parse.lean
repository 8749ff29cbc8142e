/-! ===== the reference's parser: names_w and words of lists_w ===== -/
def G202 (P : Int × Int) (N : Nat) (g : Nat × Nat) (F : XP) : Prop := ∀ (h : XH) (a m : Int), PK P N h → 0 ≤ a → 1 ≤ m → a + m ≤ 24 → ∃ v h', F 202 [182, a, m] ((a_g3, g), h) = some (1, [v], ((a_g3, g), h')) ∧ PA N h h' ∧ InI v ∧ (h' 182 8 = 0 → 0 ≤ v ∧ v < m ∧ h' = atp h ∧ tkW h (a + v)) ∧ (h' 182 8 ≠ 0 → v = 0 ∧ h' 182 7 = h 182 7)
/-- a NAME: a WORD that is_w none of those that are kept -/
def tkN (h : XH) : Prop := h 182 8 = 0 ∧ h 184 (h 182 7).toNat = 1 ∧ ∀ k, 0 ≤ k → k < 20 → ¬tkW h k
def G203 (P : Int × Int) (N : Nat) (g : Nat × Nat) (F : XP) : Prop := ∀ (h : XH), PK P N h → ∃ v, F 203 [182] ((a_g3, g), h) = some (1, [v], ((a_g3, g), h)) ∧ (v = 0 ∨ v = 1) ∧ (v ≠ 0 ↔ tkN h)
def G204 (P : Int × Int) (N : Nat) (g : Nat × Nat) (F : XP) : Prop := ∀ (h : XH) (a m : Int), PK P N h → 0 ≤ a → 0 ≤ m → a + m ≤ 28 → ∃ v, F 204 [182, a, m] ((a_g3, g), h) = some (1, [v], ((a_g3, g), h)) ∧ -1 ≤ v ∧ (0 ≤ v → v < m ∧ h 190 (a + v).toNat = h 186 (h 182 7).toNat) ∧ (v = -1 → ∀ k, 0 ≤ k → k < m → h 190 (a + k).toNat ≠ h 186 (h 182 7).toNat)
def G205 (P : Int × Int) (N : Nat) (g : Nat × Nat) (F : XP) : Prop := ∀ (h : XH) (a m : Int), PK P N h → 0 ≤ a → 0 ≤ m → a + m ≤ 28 → ∃ v h', F 205 [182, a, m] ((a_g3, g), h) = some (1, [v], ((a_g3, g), h')) ∧ PA N h h' ∧ InI v ∧ (h' 182 8 = 0 → 0 ≤ v ∧ v < m ∧ h' = atp h ∧ tkN h) ∧ (h' 182 8 ≠ 0 → v = 0 ∧ h' 182 7 = h 182 7)
section PAR4
variable {P : Int × Int} {N : Nat} {g : Nat × Nat} {xs : Nat → Int} {L K n : Nat} {ck : Nat → List Nat} {cW : Nat → Nat → Int} {h : XH}
theorem atp_8 : atp h 182 8 = h 182 8 := up_ne (fun z => absurd z.2 (by decide))
/-- how takeOne and takeTold end -/
def Fin7 (B : List Int → XH → Prop) (h2 : XH) (x : Int) : Prop := (h2 182 8 > 0 → (j_up h2 182 7 (j_iop 0 (h2 182 7) 0) 182 8 > 0 → B [0] (j_up h2 182 7 (j_iop 0 (h2 182 7) 0))) ∧ (j_up h2 182 7 (j_iop 0 (h2 182 7) 0) 182 8 ≤ 0 → B [x] (j_up h2 182 7 (j_iop 0 (h2 182 7) 0)))) ∧ (h2 182 8 ≤ 0 → (j_up h2 182 7 (j_iop 0 (h2 182 7) 1) 182 8 > 0 → B [0] (j_up h2 182 7 (j_iop 0 (h2 182 7) 1))) ∧ (j_up h2 182 7 (j_iop 0 (h2 182 7) 1) 182 8 ≤ 0 → B [x] (j_up h2 182 7 (j_iop 0 (h2 182 7) 1))))
theorem fin7_f {B : List Int → XH → Prop} {h2 : XH} {x : Int} (h8 : h2 182 8 > 0) (hj : j_iop 0 (h2 182 7) 0 = h2 182 7) (hb_w : B [0] h2) : Fin7 B h2 x := by
  unfold Fin7
  rw [hj, up_self]
  exact ⟨fun _ => ⟨fun _ => hb_w, fun z => by omega⟩, fun z => by omega⟩
theorem fin7_o {B : List Int → XH → Prop} {h2 : XH} {x : Int} (h8 : h2 182 8 = 0) (hj : j_iop 0 (h2 182 7) 1 = h2 182 7 + 1) (hb_w : B [x] (atp h2)) : Fin7 B h2 x := by
  unfold Fin7
  rw [hj]
  refine ⟨fun z => by omega, fun _ => ⟨fun z => ?_, fun _ => hb_w⟩⟩
  rw [up_ne (fun z => absurd z.2 (by decide))] at z
  omega
def B202 (N : Nat) (h : XH) (a m : Int) (r : List Int) (h' : XH) : Prop := ∃ v, r = [v] ∧ PA N h h' ∧ InI v ∧ (h' 182 8 = 0 → 0 ≤ v ∧ v < m ∧ h' = atp h ∧ tkW h (a + v)) ∧ (h' 182 8 ≠ 0 → v = 0 ∧ h' 182 7 = h 182 7)
theorem g_202 (c201 : G201 P N g (evF xs L ck K cW g_M n)) (c191 : G191 P N g (evF xs L ck K cW g_M n)) : G202 P N g (evF xs L ck K cW g_M (n + 1)) := fun h a m hp a0_w m0_w am => by
  suffices hs : ∃ r h', evF xs L ck K cW g_M (n + 1) 202 [182, a, m] ((a_g3, g), h) = some (1, r, ((a_g3, g), h')) ∧ B202 N h a m r h' by
    obtain ⟨r, h', e1_w, v, rfl, e2_w⟩ := hs
    exact ⟨v, h', e1_w, e2_w⟩
  refine tr_of gm_202 ?_
  show wS _ _ K bb_202 [182, a, m, 0] h _
  generalize evF xs L ck K cW g_M n = F at c201 c191 ⊢
  unfold bb_202
  simp only [wf_4, wf_40, wf_5, wf_50, wf_6, wl_1, wt_1, wu_1, wa_1, wl_4, wt_4, wu_4, wa_4, wl_5, wt_5, wu_5, wa_5, wl_6, wt_6, wu_6, wa_6, wl_9, wt_9, wu_9, wa_9, wl_10, wt_10, wu_10, wa_10, wl_11, wt_11, wu_11, wa_11, wl_13, wt_13, wu_13, wa_13, wl_14, wt_14, wu_14, wa_14, wl_15, wt_15, wu_15, wa_15, wl_16, wt_16, wu_16, wa_16, wl_17, wt_17, wu_17, wa_17, wl_20, wt_20, wu_20, wa_20, wl_21, wt_21, wu_21, wa_21, wl_22, wt_22, wu_22, wa_22, wl_23, wt_23, wu_23, wa_23, wl_24, wt_24, wu_24, wa_24, wl_26, wt_26, wu_26, wa_26, wl_27, wt_27, wu_27, wa_27, wl_28, wt_28, wu_28, wa_28, we_1, we_3, we_10, we_14, we_15, we_16, we_17, we_18, we_20, we_21, we_22, we_24, we_25, we_26, we_27, we_28, we_30, we_31, we_32, wc_20, wc_21, wc_22, wc_24, wc_25, wc_26, wc_27, wc_3, wc_4, wc_7, wc_28, wc_32, ws_1, ws_2, ws_3, ws_4, ws_9, ws_10, ws_11, ws_14, ws_15, ws_16, ws_27, ws_17, ws_20, ws_28, kc_0, kc_1, kn_1, kc_2, kn_2, kc_3, kc_4, kc_5, kc_6, kc_7, kc_8, kc_9, kc_10, kc_12, kc_13, kc_14, kc_16, kc_17, kc_18, kc_19, kc_20, kc_21, kc_22, kc_24, kc_28, kc_30, kc_32, kc_37, kc_40, kc_41, kc_42, kc_43, kc_45, kc_48, kc_56, kc_57, kc_59, kc_60, kc_61, kc_64, kc_73, kc_78, kc_91, kc_95, kc_96, kc_97, kc_98, kc_99, kc_100, kc_112, kc_122, kc_125, kc_126, kc_150, kc_162, kc_163, kc_168, kc_186, kc_190, kc_200, kc_250, kc_255, kc_355, kc_356, kc_404, kc_405, kc_429, kc_573, kc_999, kc_1000, kc_1002, kc_1100, kc_1891, kc_2200, kc_4719, kc_4869, kc_4881, kc_5148, kc_9999, kn_9999, kc_10000, kc_12345, kc_19741, kc_25433, kc_65536, kc_320403, kc_628412, kc_629093, kc_660401, kc_679843, kc_918640, kc_979410, kc_1178088, kc_6232410, kc_24644941, kc_36238189, kc_38270444, kc_392531318, kc_425693491, kc_1103515245, kc_1342154595, kc_2147483648, kc_42328242873, kc_891704255789, kc_1722105685577, kc_1858726030364, ct_0, ct_1, ct_2, ct_3, ct_4, ct_5, cf_0, cf_1, cf_2, cf_3, cf_4, cf_5, w_ty6, w_ty7, m_sv, m_z0, m_hd, m_g0, m_gs, m_s0, m_ss, m_ap, m_an, forall_const, true_and, and_true, ne_eq, not_true_eq_false, not_false_eq_true, false_implies, true_implies, implies_true, eq_self, reduceCtorEq, Nat.reduceDiv, Nat.reduceMod, Int.reduceToNat, or_true, true_or, or_false, false_or, or_self, m_it, m_if, m_c1, m_01, m_02, m_03, m_04, m_10, m_12, m_13, m_14, m_20, m_21, m_23, m_24, m_30, m_31, m_32, m_34, m_40, m_41, m_42, m_43]
  have rf := PA.rf hp
  have p1_w := hp.2.1.1
  obtain ⟨v, e1_w, e2_w, e3_w, e4_w, e5_w⟩ := c201 h a m hp a0_w (by omega) am
  obtain ⟨h2, f1_w, f2_w, f3_w, f4_w, -⟩ := c191 h 1 hp (by decide) (by decide)
  have f5_w := f2_w.2.1
  have stop_w : ∀ x, Fin7 (B202 N h a m) h2 x := fun x => fin7_f (by omega) (by rw [f3_w]; exact jat0 hp) ⟨0, rfl, f2_w, in_0, fun z => absurd z f4_w, fun _ => ⟨rfl, f3_w⟩⟩
  have idle_w : h 182 8 ≠ 0 → ∀ x, Fin7 (B202 N h a m) h x := fun z x => fin7_f (by omega) (jat0 hp) ⟨0, rfl, rf, in_0, fun z2 => absurd z2 z, fun _ => ⟨rfl, rfl⟩⟩
  refine ⟨fun k1_w => ⟨fun z => by omega, fun z => idle_w z _⟩, fun k1_w => ⟨[v], h, e1_w, fun k2 => ⟨fun k3 => ⟨[], h2, f1_w, stop_w _⟩, fun k3 => ?_⟩, fun k2 => idle_w k2 _⟩⟩
  obtain ⟨g1, g2⟩ := e4_w k3
  have k4 : 0 ≤ v := k3
  exact fin7_o (B := B202 N h a m) k2 (jat hp) ⟨v, rfl, tkW.pa hp g2, ⟨by omega, by omega⟩, fun _ => ⟨k3, g1, rfl, g2⟩, fun z => absurd (atp_8.trans k2) z⟩
theorem g_203 (c201 : G201 P N g (evF xs L ck K cW g_M n)) : G203 P N g (evF xs L ck K cW g_M (n + 1)) := fun h hp => by
  suffices hs : ∃ r h', evF xs L ck K cW g_M (n + 1) 203 [182] ((a_g3, g), h) = some (1, r, ((a_g3, g), h')) ∧ h' = h ∧ ∃ v, r = [v] ∧ (v = 0 ∨ v = 1) ∧ (v ≠ 0 ↔ tkN h) by
    obtain ⟨r, h', e1_w, rfl, v, rfl, e2_w⟩ := hs
    exact ⟨v, e1_w, e2_w⟩
  refine tr_of gm_203 (B := fun r h' => h' = h ∧ ∃ v, r = [v] ∧ (v = 0 ∨ v = 1) ∧ (v ≠ 0 ↔ tkN h)) ?_
  show wS _ _ K bb_203 [182] h _
  generalize evF xs L ck K cW g_M n = F at c201 ⊢
  unfold bb_203
  simp only [wf_4, wf_40, wf_5, wf_50, wf_6, wl_1, wt_1, wu_1, wa_1, wl_4, wt_4, wu_4, wa_4, wl_5, wt_5, wu_5, wa_5, wl_6, wt_6, wu_6, wa_6, wl_9, wt_9, wu_9, wa_9, wl_10, wt_10, wu_10, wa_10, wl_11, wt_11, wu_11, wa_11, wl_13, wt_13, wu_13, wa_13, wl_14, wt_14, wu_14, wa_14, wl_15, wt_15, wu_15, wa_15, wl_16, wt_16, wu_16, wa_16, wl_17, wt_17, wu_17, wa_17, wl_20, wt_20, wu_20, wa_20, wl_21, wt_21, wu_21, wa_21, wl_22, wt_22, wu_22, wa_22, wl_23, wt_23, wu_23, wa_23, wl_24, wt_24, wu_24, wa_24, wl_26, wt_26, wu_26, wa_26, wl_27, wt_27, wu_27, wa_27, wl_28, wt_28, wu_28, wa_28, we_1, we_3, we_10, we_14, we_15, we_16, we_17, we_18, we_20, we_21, we_22, we_24, we_25, we_26, we_27, we_28, we_30, we_31, we_32, wc_20, wc_21, wc_22, wc_24, wc_25, wc_26, wc_27, wc_3, wc_4, wc_7, wc_28, wc_32, ws_1, ws_2, ws_3, ws_4, ws_9, ws_10, ws_11, ws_14, ws_15, ws_16, ws_27, ws_17, ws_20, ws_28, kc_0, kc_1, kn_1, kc_2, kn_2, kc_3, kc_4, kc_5, kc_6, kc_7, kc_8, kc_9, kc_10, kc_12, kc_13, kc_14, kc_16, kc_17, kc_18, kc_19, kc_20, kc_21, kc_22, kc_24, kc_28, kc_30, kc_32, kc_37, kc_40, kc_41, kc_42, kc_43, kc_45, kc_48, kc_56, kc_57, kc_59, kc_60, kc_61, kc_64, kc_73, kc_78, kc_91, kc_95, kc_96, kc_97, kc_98, kc_99, kc_100, kc_112, kc_122, kc_125, kc_126, kc_150, kc_162, kc_163, kc_168, kc_186, kc_190, kc_200, kc_250, kc_255, kc_355, kc_356, kc_404, kc_405, kc_429, kc_573, kc_999, kc_1000, kc_1002, kc_1100, kc_1891, kc_2200, kc_4719, kc_4869, kc_4881, kc_5148, kc_9999, kn_9999, kc_10000, kc_12345, kc_19741, kc_25433, kc_65536, kc_320403, kc_628412, kc_629093, kc_660401, kc_679843, kc_918640, kc_979410, kc_1178088, kc_6232410, kc_24644941, kc_36238189, kc_38270444, kc_392531318, kc_425693491, kc_1103515245, kc_1342154595, kc_2147483648, kc_42328242873, kc_891704255789, kc_1722105685577, kc_1858726030364, ct_0, ct_1, ct_2, ct_3, ct_4, ct_5, cf_0, cf_1, cf_2, cf_3, cf_4, cf_5, w_ty6, w_ty7, m_sv, m_z0, m_hd, m_g0, m_gs, m_s0, m_ss, m_ap, m_an, forall_const, true_and, and_true, ne_eq, not_true_eq_false, not_false_eq_true, false_implies, true_implies, implies_true, eq_self, reduceCtorEq, Nat.reduceDiv, Nat.reduceMod, Int.reduceToNat, or_true, true_or, or_false, false_or, or_self, m_it, m_if, m_c1, m_01, m_02, m_03, m_04, m_10, m_12, m_13, m_14, m_20, m_21, m_23, m_24, m_30, m_31, m_32, m_34, m_40, m_41, m_42, m_43]
  obtain ⟨v, e1_w, e2_w, e3_w, e4_w, e5_w⟩ := c201 h 0 20 hp (by decide) (by decide) (by decide)
  obtain ⟨q, ⟨p1_w, p2_w, p3_w, p4_w, p5_w, p6_w, p7_w⟩, d⟩ := hp
  have ba_w : 0 ≤ h 182 7 ∧ h 182 7 < 1002 := ⟨p2_w, by omega⟩
  have no : ¬tkN h → ∃ v, [(0 : Int)] = [v] ∧ (v = 0 ∨ v = 1) ∧ (¬v = 0 ↔ tkN h) := fun k => ⟨0, rfl, Or.inl rfl, fun k2 => absurd rfl k2, fun k2 => absurd k2 k⟩
  refine ⟨fun k1_w => ⟨ba_w, fun k2 => ⟨[v], h, e1_w, fun k3 => ⟨rfl, 1, rfl, Or.inr rfl, fun _ => ⟨k1_w, k2, fun k a0_w a1_w => ?_⟩, fun _ => by decide⟩, fun k3 => ⟨rfl, no (fun z => ?_)⟩⟩, fun k2 => no (fun z => k2 z.2.1)⟩, fun k1_w => no (fun z => k1_w z.1)⟩
  · have k3 : v < 0 := k3
    have h5 := e5_w (by omega) k a0_w a1_w
    rwa [Int.zero_add] at h5
  · have k3 : 0 ≤ v := k3
    have h4 := e4_w k3
    rw [Int.zero_add] at h4
    exact z.2.2 v k3 h4.1 h4.2
def B204 (h : XH) (a m : Int) (r : List Int) (h' : XH) : Prop := h' = h ∧ ∃ v, r = [v] ∧ -1 ≤ v ∧ (0 ≤ v → v < m ∧ h 190 (a + v).toNat = h 186 (h 182 7).toNat) ∧ (v = -1 → ∀ k, 0 ≤ k → k < m → h 190 (a + k).toNat ≠ h 186 (h 182 7).toNat)
theorem g_204 (hK_w : 4294967300 ≤ K) : G204 P N g (evF xs L ck K cW g_M (n + 1)) := fun h a m hp a0_w m0_w am => by
  suffices hs : ∃ r h', evF xs L ck K cW g_M (n + 1) 204 [182, a, m] ((a_g3, g), h) = some (1, r, ((a_g3, g), h')) ∧ B204 h a m r h' by
    obtain ⟨r, h', e1_w, rfl, v, rfl, e2_w⟩ := hs
    exact ⟨v, e1_w, e2_w⟩
  refine tr_of gm_204 ?_
  show wS _ _ K bb_204 [182, a, m, 0, 0] h _
  generalize evF xs L ck K cW g_M n = F
  unfold bb_204
  simp only [wf_4, wf_40, wf_5, wf_50, wf_6, wl_1, wt_1, wu_1, wa_1, wl_4, wt_4, wu_4, wa_4, wl_5, wt_5, wu_5, wa_5, wl_6, wt_6, wu_6, wa_6, wl_9, wt_9, wu_9, wa_9, wl_10, wt_10, wu_10, wa_10, wl_11, wt_11, wu_11, wa_11, wl_13, wt_13, wu_13, wa_13, wl_14, wt_14, wu_14, wa_14, wl_15, wt_15, wu_15, wa_15, wl_16, wt_16, wu_16, wa_16, wl_17, wt_17, wu_17, wa_17, wl_20, wt_20, wu_20, wa_20, wl_21, wt_21, wu_21, wa_21, wl_22, wt_22, wu_22, wa_22, wl_23, wt_23, wu_23, wa_23, wl_24, wt_24, wu_24, wa_24, wl_26, wt_26, wu_26, wa_26, wl_27, wt_27, wu_27, wa_27, wl_28, wt_28, wu_28, wa_28, we_1, we_3, we_10, we_14, we_15, we_16, we_17, we_18, we_20, we_21, we_22, we_24, we_25, we_26, we_27, we_28, we_30, we_31, we_32, wc_20, wc_21, wc_22, wc_24, wc_25, wc_26, wc_27, wc_3, wc_4, wc_7, wc_28, wc_32, ws_1, ws_2, ws_3, ws_4, ws_9, ws_10, ws_11, ws_14, ws_15, ws_16, ws_27, ws_17, ws_20, ws_28, kc_0, kc_1, kn_1, kc_2, kn_2, kc_3, kc_4, kc_5, kc_6, kc_7, kc_8, kc_9, kc_10, kc_12, kc_13, kc_14, kc_16, kc_17, kc_18, kc_19, kc_20, kc_21, kc_22, kc_24, kc_28, kc_30, kc_32, kc_37, kc_40, kc_41, kc_42, kc_43, kc_45, kc_48, kc_56, kc_57, kc_59, kc_60, kc_61, kc_64, kc_73, kc_78, kc_91, kc_95, kc_96, kc_97, kc_98, kc_99, kc_100, kc_112, kc_122, kc_125, kc_126, kc_150, kc_162, kc_163, kc_168, kc_186, kc_190, kc_200, kc_250, kc_255, kc_355, kc_356, kc_404, kc_405, kc_429, kc_573, kc_999, kc_1000, kc_1002, kc_1100, kc_1891, kc_2200, kc_4719, kc_4869, kc_4881, kc_5148, kc_9999, kn_9999, kc_10000, kc_12345, kc_19741, kc_25433, kc_65536, kc_320403, kc_628412, kc_629093, kc_660401, kc_679843, kc_918640, kc_979410, kc_1178088, kc_6232410, kc_24644941, kc_36238189, kc_38270444, kc_392531318, kc_425693491, kc_1103515245, kc_1342154595, kc_2147483648, kc_42328242873, kc_891704255789, kc_1722105685577, kc_1858726030364, ct_0, ct_1, ct_2, ct_3, ct_4, ct_5, cf_0, cf_1, cf_2, cf_3, cf_4, cf_5, w_ty6, w_ty7, m_sv, m_z0, m_hd, m_g0, m_gs, m_s0, m_ss, m_ap, m_an, forall_const, true_and, and_true, ne_eq, not_true_eq_false, not_false_eq_true, false_implies, true_implies, implies_true, eq_self, reduceCtorEq, Nat.reduceDiv, Nat.reduceMod, Int.reduceToNat, or_true, true_or, or_false, false_or, or_self, m_it, m_if, m_c1, m_01, m_02, m_03, m_04, m_10, m_12, m_13, m_14, m_20, m_21, m_23, m_24, m_30, m_31, m_32, m_34, m_40, m_41, m_42, m_43]
  obtain ⟨q, ⟨p1_w, p2_w, p3_w, p4_w, p5_w, p6_w, p7_w⟩, d⟩ := hp
  have ba_w : 0 ≤ h 182 7 ∧ h 182 7 < 1002 := ⟨p2_w, by omega⟩
  refine w_lp (fun en h' => ∃ v k : Int, en = [182, a, m, v, k] ∧ 0 ≤ k ∧ k ≤ m ∧ -1 ≤ v ∧ (0 ≤ v → v < k ∧ h 190 (a + v).toNat = h 186 (h 182 7).toNat) ∧ (v = -1 → ∀ i, 0 ≤ i → i < k → h 190 (a + i).toNat ≠ h 186 (h 182 7).toNat) ∧ h' = h) (fun en _ => (m - en.getD 4 0).toNat) ⟨-1, 0, rfl, by omega, by omega, by omega, fun z => absurd z (by decide), fun _ i i0 i1_w => by omega, rfl⟩ ?_
  rintro en h1 ⟨v, k, rfl, k0_w, k1_w, v0_w, v1_w, v2, rfl⟩
  refine ⟨?_, ?_⟩
  · show (m - k).toNat < K
    omega
  simp only [wf_4, wf_40, wf_5, wf_50, wf_6, wl_1, wt_1, wu_1, wa_1, wl_4, wt_4, wu_4, wa_4, wl_5, wt_5, wu_5, wa_5, wl_6, wt_6, wu_6, wa_6, wl_9, wt_9, wu_9, wa_9, wl_10, wt_10, wu_10, wa_10, wl_11, wt_11, wu_11, wa_11, wl_13, wt_13, wu_13, wa_13, wl_14, wt_14, wu_14, wa_14, wl_15, wt_15, wu_15, wa_15, wl_16, wt_16, wu_16, wa_16, wl_17, wt_17, wu_17, wa_17, wl_20, wt_20, wu_20, wa_20, wl_21, wt_21, wu_21, wa_21, wl_22, wt_22, wu_22, wa_22, wl_23, wt_23, wu_23, wa_23, wl_24, wt_24, wu_24, wa_24, wl_26, wt_26, wu_26, wa_26, wl_27, wt_27, wu_27, wa_27, wl_28, wt_28, wu_28, wa_28, we_1, we_3, we_10, we_14, we_15, we_16, we_17, we_18, we_20, we_21, we_22, we_24, we_25, we_26, we_27, we_28, we_30, we_31, we_32, wc_20, wc_21, wc_22, wc_24, wc_25, wc_26, wc_27, wc_3, wc_4, wc_7, wc_28, wc_32, ws_1, ws_2, ws_3, ws_4, ws_9, ws_10, ws_11, ws_14, ws_15, ws_16, ws_27, ws_17, ws_20, ws_28, kc_0, kc_1, kn_1, kc_2, kn_2, kc_3, kc_4, kc_5, kc_6, kc_7, kc_8, kc_9, kc_10, kc_12, kc_13, kc_14, kc_16, kc_17, kc_18, kc_19, kc_20, kc_21, kc_22, kc_24, kc_28, kc_30, kc_32, kc_37, kc_40, kc_41, kc_42, kc_43, kc_45, kc_48, kc_56, kc_57, kc_59, kc_60, kc_61, kc_64, kc_73, kc_78, kc_91, kc_95, kc_96, kc_97, kc_98, kc_99, kc_100, kc_112, kc_122, kc_125, kc_126, kc_150, kc_162, kc_163, kc_168, kc_186, kc_190, kc_200, kc_250, kc_255, kc_355, kc_356, kc_404, kc_405, kc_429, kc_573, kc_999, kc_1000, kc_1002, kc_1100, kc_1891, kc_2200, kc_4719, kc_4869, kc_4881, kc_5148, kc_9999, kn_9999, kc_10000, kc_12345, kc_19741, kc_25433, kc_65536, kc_320403, kc_628412, kc_629093, kc_660401, kc_679843, kc_918640, kc_979410, kc_1178088, kc_6232410, kc_24644941, kc_36238189, kc_38270444, kc_392531318, kc_425693491, kc_1103515245, kc_1342154595, kc_2147483648, kc_42328242873, kc_891704255789, kc_1722105685577, kc_1858726030364, ct_0, ct_1, ct_2, ct_3, ct_4, ct_5, cf_0, cf_1, cf_2, cf_3, cf_4, cf_5, w_ty6, w_ty7, m_sv, m_z0, m_hd, m_g0, m_gs, m_s0, m_ss, m_ap, m_an, forall_const, true_and, and_true, ne_eq, not_true_eq_false, not_false_eq_true, false_implies, true_implies, implies_true, eq_self, reduceCtorEq, Nat.reduceDiv, Nat.reduceMod, Int.reduceToNat, or_true, true_or, or_false, false_or, or_self, m_it, m_if, m_c1, m_01, m_02, m_03, m_04, m_10, m_12, m_13, m_14, m_20, m_21, m_23, m_24, m_30, m_31, m_32, m_34, m_40, m_41, m_42, m_43]
  refine ⟨fun hk => ?_, fun hk => ⟨rfl, v, rfl, v0_w, fun z => ?_, fun z i i0 i1_w => v2 z i i0 (by omega)⟩⟩
  · rw [jadd (x := a) (y := k) (by omega) (by omega), jinc (by omega) (by omega)]
    refine ⟨⟨by omega, by omega⟩, ba_w, fun z => ⟨⟨k, k + 1, rfl, by omega, by omega, by omega, fun _ => ⟨by omega, z⟩, fun z2 => by omega⟩, ?_⟩, fun z => ⟨⟨v, k + 1, rfl, by omega, by omega, v0_w, fun z2 => ⟨by have := (v1_w z2).1; omega, (v1_w z2).2⟩, fun z2 i i0 i1_w => ?_⟩, ?_⟩⟩
    · show (m - (k + 1)).toNat < (m - k).toNat
      omega
    · by_cases e : i = k
      · subst e
        exact z
      · exact v2 z2 i i0 (by omega)
    · show (m - (k + 1)).toNat < (m - k).toNat
      omega
  · have := v1_w z
    exact ⟨by omega, this.2⟩
def B205 (N : Nat) (h : XH) (a m : Int) (r : List Int) (h' : XH) : Prop := ∃ v, r = [v] ∧ PA N h h' ∧ InI v ∧ (h' 182 8 = 0 → 0 ≤ v ∧ v < m ∧ h' = atp h ∧ tkN h) ∧ (h' 182 8 ≠ 0 → v = 0 ∧ h' 182 7 = h 182 7)
theorem g_205 (c203 : G203 P N g (evF xs L ck K cW g_M n)) (c204 : G204 P N g (evF xs L ck K cW g_M n)) (c191 : G191 P N g (evF xs L ck K cW g_M n)) : G205 P N g (evF xs L ck K cW g_M (n + 1)) := fun h a m hp a0_w m0_w am => by
  suffices hs : ∃ r h', evF xs L ck K cW g_M (n + 1) 205 [182, a, m] ((a_g3, g), h) = some (1, r, ((a_g3, g), h')) ∧ B205 N h a m r h' by
    obtain ⟨r, h', e1_w, v, rfl, e2_w⟩ := hs
    exact ⟨v, h', e1_w, e2_w⟩
  refine tr_of gm_205 ?_
  show wS _ _ K bb_205 [182, a, m, 0] h _
  generalize evF xs L ck K cW g_M n = F at c203 c204 c191 ⊢
  unfold bb_205
  simp only [wf_4, wf_40, wf_5, wf_50, wf_6, wl_1, wt_1, wu_1, wa_1, wl_4, wt_4, wu_4, wa_4, wl_5, wt_5, wu_5, wa_5, wl_6, wt_6, wu_6, wa_6, wl_9, wt_9, wu_9, wa_9, wl_10, wt_10, wu_10, wa_10, wl_11, wt_11, wu_11, wa_11, wl_13, wt_13, wu_13, wa_13, wl_14, wt_14, wu_14, wa_14, wl_15, wt_15, wu_15, wa_15, wl_16, wt_16, wu_16, wa_16, wl_17, wt_17, wu_17, wa_17, wl_20, wt_20, wu_20, wa_20, wl_21, wt_21, wu_21, wa_21, wl_22, wt_22, wu_22, wa_22, wl_23, wt_23, wu_23, wa_23, wl_24, wt_24, wu_24, wa_24, wl_26, wt_26, wu_26, wa_26, wl_27, wt_27, wu_27, wa_27, wl_28, wt_28, wu_28, wa_28, we_1, we_3, we_10, we_14, we_15, we_16, we_17, we_18, we_20, we_21, we_22, we_24, we_25, we_26, we_27, we_28, we_30, we_31, we_32, wc_20, wc_21, wc_22, wc_24, wc_25, wc_26, wc_27, wc_3, wc_4, wc_7, wc_28, wc_32, ws_1, ws_2, ws_3, ws_4, ws_9, ws_10, ws_11, ws_14, ws_15, ws_16, ws_27, ws_17, ws_20, ws_28, kc_0, kc_1, kn_1, kc_2, kn_2, kc_3, kc_4, kc_5, kc_6, kc_7, kc_8, kc_9, kc_10, kc_12, kc_13, kc_14, kc_16, kc_17, kc_18, kc_19, kc_20, kc_21, kc_22, kc_24, kc_28, kc_30, kc_32, kc_37, kc_40, kc_41, kc_42, kc_43, kc_45, kc_48, kc_56, kc_57, kc_59, kc_60, kc_61, kc_64, kc_73, kc_78, kc_91, kc_95, kc_96, kc_97, kc_98, kc_99, kc_100, kc_112, kc_122, kc_125, kc_126, kc_150, kc_162, kc_163, kc_168, kc_186, kc_190, kc_200, kc_250, kc_255, kc_355, kc_356, kc_404, kc_405, kc_429, kc_573, kc_999, kc_1000, kc_1002, kc_1100, kc_1891, kc_2200, kc_4719, kc_4869, kc_4881, kc_5148, kc_9999, kn_9999, kc_10000, kc_12345, kc_19741, kc_25433, kc_65536, kc_320403, kc_628412, kc_629093, kc_660401, kc_679843, kc_918640, kc_979410, kc_1178088, kc_6232410, kc_24644941, kc_36238189, kc_38270444, kc_392531318, kc_425693491, kc_1103515245, kc_1342154595, kc_2147483648, kc_42328242873, kc_891704255789, kc_1722105685577, kc_1858726030364, ct_0, ct_1, ct_2, ct_3, ct_4, ct_5, cf_0, cf_1, cf_2, cf_3, cf_4, cf_5, w_ty6, w_ty7, m_sv, m_z0, m_hd, m_g0, m_gs, m_s0, m_ss, m_ap, m_an, forall_const, true_and, and_true, ne_eq, not_true_eq_false, not_false_eq_true, false_implies, true_implies, implies_true, eq_self, reduceCtorEq, Nat.reduceDiv, Nat.reduceMod, Int.reduceToNat, or_true, true_or, or_false, false_or, or_self, m_it, m_if, m_c1, m_01, m_02, m_03, m_04, m_10, m_12, m_13, m_14, m_20, m_21, m_23, m_24, m_30, m_31, m_32, m_34, m_40, m_41, m_42, m_43]
  have rf := PA.rf hp
  have p1_w := hp.2.1.1
  obtain ⟨w, e1_w, e2_w, e3_w⟩ := c203 h hp
  obtain ⟨v, d1_w, d2_w, d3_w, d4_w⟩ := c204 h a m hp a0_w m0_w am
  obtain ⟨h1, f1_w, f2_w, f3_w, f4_w, -⟩ := c191 h 1 hp (by decide) (by decide)
  obtain ⟨h2, x1_w, x2_w, x3, x4_w, -⟩ := c191 h 2 hp (by decide) (by decide)
  have f5_w := f2_w.2.1
  have x5_w := x2_w.2.1
  have stop1 : ∀ x, Fin7 (B205 N h a m) h1 x := fun x => fin7_f (by omega) (by rw [f3_w]; exact jat0 hp) ⟨0, rfl, f2_w, in_0, fun z => absurd z f4_w, fun _ => ⟨rfl, f3_w⟩⟩
  have stop2 : ∀ x, Fin7 (B205 N h a m) h2 x := fun x => fin7_f (by omega) (by rw [x3]; exact jat0 hp) ⟨0, rfl, x2_w, in_0, fun z => absurd z x4_w, fun _ => ⟨rfl, x3⟩⟩
  have idle_w : h 182 8 ≠ 0 → ∀ x, Fin7 (B205 N h a m) h x := fun z x => fin7_f (by omega) (jat0 hp) ⟨0, rfl, rf, in_0, fun z2 => absurd z2 z, fun _ => ⟨rfl, rfl⟩⟩
  refine ⟨fun k1_w => ⟨[w], h, e1_w, fun k2 => ⟨fun z => by omega, fun _ => ⟨[v], h, d1_w, fun _ => ⟨fun _ => ⟨[], h2, x1_w, stop2 _⟩, fun k3 => ?_⟩, fun z => absurd k1_w z⟩⟩, fun k2 => ⟨[], h1, f1_w, ⟨fun _ => ⟨fun z => absurd z f4_w, fun _ => stop1 _⟩, fun z => by omega⟩⟩⟩, fun k1_w => ⟨fun _ => ⟨fun z => absurd z k1_w, fun _ => idle_w k1_w _⟩, fun z => by omega⟩⟩
  have k3 : 0 ≤ v := k3
  obtain ⟨g1, g2⟩ := d3_w k3
  exact fin7_o (B := B205 N h a m) k1_w (jat hp) ⟨v, rfl, PA.next hp (by rw [(e3_w.mp k2).2.1]; decide), ⟨by omega, by omega⟩, fun _ => ⟨k3, g1, rfl, e3_w.mp k2⟩, fun z => absurd (atp_8.trans k1_w) z⟩
end PAR4
