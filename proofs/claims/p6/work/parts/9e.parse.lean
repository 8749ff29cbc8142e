/-! ===== the reference's parser: where it stands ===== -/
/-- the token at which it stands, and the END behind_w all_w: N -/
def PT (N : Nat) (h : XH) : Prop := 0 ≤ h 182 8 ∧ 0 ≤ h 182 7 ∧ h 182 7 ≤ (N : Int) ∧ N ≤ 1000 ∧ h 184 N = 0 ∧ 0 ≤ h 182 12 ∧ h 182 12 ≤ h 182 7 + 1001 ∧ ∀ i : Nat, i < N → h 184 i = 2 → 0 ≤ h 186 i ∧ h 186 i ≤ 9999
/-- the draft of a grid -/
def DG (h : XH) : Prop := GridOK (h 188) 95 (h 188 98) (h 188 96)
def PK (P : Int × Int) (N : Nat) (h : XH) : Prop := QK P (r_T 0) (RJ P) h ∧ PT N h ∧ DG h
/-- at and fault alone_w are written_w -/
def PA (N : Nat) (h h' : XH) : Prop := (∀ o k, (o = 182 → k ≠ 7 ∧ k ≠ 8) → h' o k = h o k) ∧ 0 ≤ h' 182 8 ∧ InI (h' 182 8) ∧ (h 182 8 ≠ 0 → h' 182 8 = h 182 8) ∧ h 182 7 ≤ h' 182 7 ∧ h' 182 7 ≤ (N : Int)
section PAR1
variable {P : Int × Int} {N : Nat} {g : Nat × Nat} {xs : Nat → Int} {L K n : Nat} {ck : Nat → List Nat} {cW : Nat → Nat → Int} {h h' h2 : XH}
theorem fld78 {h : XH} {a f : Int} {k : Nat} (hk : k = 7 ∨ k = 8) (hQ : QK P (r_T 0) (RJ P) h) {v : Int} (hv : InI v) : QK P (r_T 0) (RJ P) (j_up h 182 k v) := by
  rcases hk with rfl | rfl
  · exact (fd_QK hQ rj_js (k := 7) (Or.inl rfl) (IV.top hv)).1
  · exact (fd_QK hQ rj_js (k := 8) (Or.inl rfl) (IV.top hv)).1
theorem ht_fld {k : Nat} (hQ : QK P (r_T 0) (RJ P) h) (hk : (r_F k).1 = 1) : InI (h 182 k) := by
  have k1_w : IV P (r_F k) (h 182 k) := hQ.2.1 k
  generalize r_F k = t at hk k1_w
  obtain ⟨tt, l, u⟩ := t
  dsimp only at hk
  subst hk
  exact k1_w.2.2
theorem PA.rf (hp : PK P N h) : PA N h h := ⟨fun _ _ _ => rfl, hp.2.1.1, ht_fld hp.1 rfl, fun _ => rfl, Int.le_refl _, hp.2.1.2.2.1⟩
theorem PK.pa (hp : PK P N h) (ha_w : PA N h h') : PK P N h' := by
  obtain ⟨a1_w, a2, a3, a4, a5, a6⟩ := ha_w
  obtain ⟨q, ⟨p1_w, p2_w, p3_w, p4_w, p5_w, p6_w, p7_w, p8_w⟩, d⟩ := hp
  have e : h' = j_up (j_up h 182 7 (h' 182 7)) 182 8 (h' 182 8) := funext fun o => funext fun k => by
    by_cases h8 : o = 182 ∧ k = 8
    · obtain ⟨rfl, rfl⟩ := h8
      rw [up_eq]
    · rw [up_ne h8]
      by_cases h7 : o = 182 ∧ k = 7
      · obtain ⟨rfl, rfl⟩ := h7
        rw [up_eq]
      · rw [up_ne h7]
        exact a1_w o k (fun z => ⟨fun z2 => h7 ⟨z, z2⟩, fun z2 => h8 ⟨z, z2⟩⟩)
  have e188 : h' 188 = h 188 := funext fun k => a1_w 188 k (fun z => absurd z (by decide))
  refine ⟨?_, ⟨a2, by omega, a6, p4_w, (a1_w 184 N (fun z => absurd z (by decide))).trans p5_w, ?_, ?_, fun i hi_w hs => ?_⟩, ?_⟩
  · rw [e]
    exact fld78 (a := 0) (f := 0) (Or.inr rfl) (fld78 (a := 0) (f := 0) (Or.inl rfl) q ⟨by omega, by omega⟩) a3
  · rw [a1_w 182 12 (fun _ => by decide)]
    exact p6_w
  · rw [a1_w 182 12 (fun _ => by decide)]
    omega
  · rw [a1_w 184 i (fun z => absurd z (by decide))] at hs
    rw [a1_w 186 i (fun z => absurd z (by decide))]
    exact p8_w i hi_w hs
  · unfold DG
    rw [e188]
    exact d
theorem PA.tr (a : PA N h h') (b : PA N h' h2) : PA N h h2 := by
  obtain ⟨a1_w, a2, a3, a4, a5, a6⟩ := a
  obtain ⟨b1, b2, b3, b4, b5, b6⟩ := b
  exact ⟨fun o k e => (b1 o k e).trans (a1_w o k e), b2, b3, fun e => by rw [b4 (by rw [a4 e]; exact e), a4 e], by omega, b6⟩
theorem PA.ob (a : PA N h h') {q : Nat} (hq : q ≠ 182) : h' q = h q := funext fun k => a.1 q k (fun z => absurd z hq)
theorem up_self {o k : Nat} : j_up h o k (h o k) = h := funext fun a => funext fun b => by
  by_cases e : a = o ∧ b = k
  · obtain ⟨rfl, rfl⟩ := e
    rw [up_eq]
  · rw [up_ne e]
/-- one token on_w -/
theorem PA.next (hp : PK P N h) (hs : h 184 (h 182 7).toNat ≠ 0) : PA N h (j_up h 182 7 (h 182 7 + 1)) := by
  obtain ⟨q, ⟨p1_w, p2_w, p3_w, p4_w, p5_w, p6_w, p7_w⟩, d⟩ := hp
  have hne : h 182 7 ≠ (N : Int) := fun e => hs (by rw [e]; exact p5_w)
  refine ⟨fun o k e => up_ne (fun z => (e z.1).1 z.2), ?_, ?_, fun _ => up_ne (fun z => absurd z.2 (by decide)), ?_, ?_⟩
  · rw [up_ne (fun z => absurd z.2 (by decide))]
    exact p1_w
  · rw [up_ne (fun z => absurd z.2 (by decide))]
    exact ht_fld q rfl
  · rw [up_eq]
    omega
  · rw [up_eq]
    omega
theorem p_place (hp : PK P N h) : 0 ≤ h 185 (h 182 7).toNat ∧ h 185 (h 182 7).toNat ≤ 1000 := by
  obtain ⟨q, ⟨p1_w, p2_w, p3_w, p4_w, p5_w, p6_w, p7_w⟩, d⟩ := hp
  have k : IV P (1, 0, 1000) (h 185 (h 182 7).toNat) := q_cell q (q := 185) (r := 0) (x := (0, 1002, (1, 0, 1000))) (by decide) rfl rfl (by dsimp only; omega) (by dsimp only; omega)
  exact ⟨k.1, k.2.1⟩
end PAR1
/-- what the token is_w: a SIGN, a WORD -/
def tkS (h : XH) (c : Int) : Prop := h 182 8 = 0 ∧ h 184 (h 182 7).toNat = 3 ∧ h 186 (h 182 7).toNat = c
def tkW (h : XH) (w : Int) : Prop := h 182 8 = 0 ∧ h 184 (h 182 7).toNat = 1 ∧ h 186 (h 182 7).toNat = h 187 w.toNat
def G191 (P : Int × Int) (N : Nat) (g : Nat × Nat) (F : XP) : Prop := ∀ (h : XH) (w : Int), PK P N h → 1 ≤ w → w ≤ 5 → ∃ h', F 191 [182, w] ((a_g3, g), h) = some (1, [], ((a_g3, g), h')) ∧ PA N h h' ∧ h' 182 7 = h 182 7 ∧ h' 182 8 ≠ 0 ∧ (h 182 8 = 0 → h' 182 8 = w + 16 * h 185 (h 182 7).toNat)
def G192 (P : Int × Int) (N : Nat) (g : Nat × Nat) (F : XP) : Prop := ∀ (h : XH) (c : Int), PK P N h → InI c → ∃ v, F 192 [182, c] ((a_g3, g), h) = some (1, [v], ((a_g3, g), h)) ∧ (v = 0 ∨ v = 1) ∧ (v ≠ 0 ↔ tkS h c)
def G193 (P : Int × Int) (N : Nat) (g : Nat × Nat) (F : XP) : Prop := ∀ (h : XH) (w : Int), PK P N h → 0 ≤ w → w < 24 → ∃ v, F 193 [182, w] ((a_g3, g), h) = some (1, [v], ((a_g3, g), h)) ∧ (v = 0 ∨ v = 1) ∧ (v ≠ 0 ↔ tkW h w)
section PAR2
variable {P : Int × Int} {N : Nat} {g : Nat × Nat} {xs : Nat → Int} {L K n : Nat} {ck : Nat → List Nat} {cW : Nat → Nat → Int} {h : XH}
theorem g_191 : G191 P N g (evF xs L ck K cW g_M (n + 1)) := fun h w hp w1_w w2_w => by
  suffices hs : ∃ r h', evF xs L ck K cW g_M (n + 1) 191 [182, w] ((a_g3, g), h) = some (1, r, ((a_g3, g), h')) ∧ r = [] ∧ PA N h h' ∧ h' 182 7 = h 182 7 ∧ h' 182 8 ≠ 0 ∧ (h 182 8 = 0 → h' 182 8 = w + 16 * h 185 (h 182 7).toNat) by
    obtain ⟨r, h', e1_w, rfl, e2_w⟩ := hs
    exact ⟨h', e1_w, e2_w⟩
  refine tr_of gm_191 (B := fun r h' => r = [] ∧ PA N h h' ∧ h' 182 7 = h 182 7 ∧ h' 182 8 ≠ 0 ∧ (h 182 8 = 0 → h' 182 8 = w + 16 * h 185 (h 182 7).toNat)) ?_
  show wS _ _ K bb_191 [182, w] h _
  generalize evF xs L ck K cW g_M n = F
  unfold bb_191
  simp only [wf_4, wf_40, wf_5, wf_50, wf_6, wl_1, wt_1, wu_1, wa_1, wl_4, wt_4, wu_4, wa_4, wl_5, wt_5, wu_5, wa_5, wl_6, wt_6, wu_6, wa_6, wl_9, wt_9, wu_9, wa_9, wl_10, wt_10, wu_10, wa_10, wl_11, wt_11, wu_11, wa_11, wl_13, wt_13, wu_13, wa_13, wl_14, wt_14, wu_14, wa_14, wl_15, wt_15, wu_15, wa_15, wl_16, wt_16, wu_16, wa_16, wl_17, wt_17, wu_17, wa_17, wl_20, wt_20, wu_20, wa_20, wl_21, wt_21, wu_21, wa_21, wl_22, wt_22, wu_22, wa_22, wl_23, wt_23, wu_23, wa_23, wl_24, wt_24, wu_24, wa_24, wl_26, wt_26, wu_26, wa_26, wl_27, wt_27, wu_27, wa_27, wl_28, wt_28, wu_28, wa_28, we_1, we_3, we_10, we_14, we_15, we_16, we_17, we_18, we_20, we_21, we_22, we_24, we_25, we_26, we_27, we_28, we_30, we_31, we_32, wc_20, wc_21, wc_22, wc_24, wc_25, wc_26, wc_27, wc_3, wc_4, wc_7, wc_28, wc_32, ws_1, ws_2, ws_3, ws_4, ws_9, ws_10, ws_11, ws_14, ws_15, ws_16, ws_27, ws_17, ws_20, ws_28, kc_0, kc_1, kn_1, kc_2, kn_2, kc_3, kc_4, kc_5, kc_6, kc_7, kc_8, kc_9, kc_10, kc_12, kc_13, kc_14, kc_16, kc_17, kc_18, kc_19, kc_20, kc_21, kc_22, kc_24, kc_28, kc_30, kc_32, kc_37, kc_40, kc_41, kc_42, kc_43, kc_45, kc_48, kc_56, kc_57, kc_59, kc_60, kc_61, kc_64, kc_73, kc_78, kc_91, kc_95, kc_96, kc_97, kc_98, kc_99, kc_100, kc_112, kc_122, kc_125, kc_126, kc_150, kc_162, kc_163, kc_168, kc_186, kc_190, kc_200, kc_250, kc_255, kc_355, kc_356, kc_404, kc_405, kc_429, kc_573, kc_999, kc_1000, kc_1002, kc_1100, kc_1891, kc_2200, kc_4719, kc_4869, kc_4881, kc_5148, kc_9999, kn_9999, kc_10000, kc_12345, kc_19741, kc_25433, kc_65536, kc_320403, kc_628412, kc_629093, kc_660401, kc_679843, kc_918640, kc_979410, kc_1178088, kc_6232410, kc_24644941, kc_36238189, kc_38270444, kc_392531318, kc_425693491, kc_1103515245, kc_1342154595, kc_2147483648, kc_42328242873, kc_891704255789, kc_1722105685577, kc_1858726030364, ct_0, ct_1, ct_2, ct_3, ct_4, ct_5, cf_0, cf_1, cf_2, cf_3, cf_4, cf_5, w_ty6, w_ty7, m_sv, m_z0, m_hd, m_g0, m_gs, m_s0, m_ss, m_ap, m_an, forall_const, true_and, and_true, ne_eq, not_true_eq_false, not_false_eq_true, false_implies, true_implies, implies_true, eq_self, reduceCtorEq, Nat.reduceDiv, Nat.reduceMod, Int.reduceToNat, or_true, true_or, or_false, false_or, or_self, m_it, m_if, m_c1, m_01, m_02, m_03, m_04, m_10, m_12, m_13, m_14, m_20, m_21, m_23, m_24, m_30, m_31, m_32, m_34, m_40, m_41, m_42, m_43]
  have pl := p_place hp
  have rf := PA.rf hp
  obtain ⟨q, ⟨p1_w, p2_w, p3_w, p4_w, p5_w, p6_w, p7_w⟩, d⟩ := hp
  refine ⟨fun k => ?_, fun k => ⟨rf, k, fun k2 => absurd k2 k⟩⟩
  rw [jmul (by omega) (by omega), jadd (by omega) (by omega)]
  refine ⟨⟨p2_w, by omega⟩, ⟨fun o i e => up_ne (fun z => (e z.1).2 z.2), ?_, ?_, fun k2 => absurd k k2, ?_, ?_⟩, up_ne (fun z => absurd z.2 (by decide)), ?_, fun _ => up_eq⟩
  · rw [up_eq]
    omega
  · rw [up_eq]
    exact ⟨by omega, by omega⟩
  · rw [up_ne (fun z => absurd z.2 (by decide))]
    exact Int.le_refl _
  · rw [up_ne (fun z => absurd z.2 (by decide))]
    exact p3_w
  · rw [up_eq]
    omega
theorem g_192 : G192 P N g (evF xs L ck K cW g_M (n + 1)) := fun h c hp hc_w => by
  suffices hs : ∃ r h', evF xs L ck K cW g_M (n + 1) 192 [182, c] ((a_g3, g), h) = some (1, r, ((a_g3, g), h')) ∧ h' = h ∧ ∃ v, r = [v] ∧ (v = 0 ∨ v = 1) ∧ (v ≠ 0 ↔ tkS h c) by
    obtain ⟨r, h', e1_w, rfl, v, rfl, e2_w⟩ := hs
    exact ⟨v, e1_w, e2_w⟩
  refine tr_of gm_192 (B := fun r h' => h' = h ∧ ∃ v, r = [v] ∧ (v = 0 ∨ v = 1) ∧ (v ≠ 0 ↔ tkS h c)) ?_
  show wS _ _ K bb_192 [182, c] h _
  generalize evF xs L ck K cW g_M n = F
  unfold bb_192
  simp only [wf_4, wf_40, wf_5, wf_50, wf_6, wl_1, wt_1, wu_1, wa_1, wl_4, wt_4, wu_4, wa_4, wl_5, wt_5, wu_5, wa_5, wl_6, wt_6, wu_6, wa_6, wl_9, wt_9, wu_9, wa_9, wl_10, wt_10, wu_10, wa_10, wl_11, wt_11, wu_11, wa_11, wl_13, wt_13, wu_13, wa_13, wl_14, wt_14, wu_14, wa_14, wl_15, wt_15, wu_15, wa_15, wl_16, wt_16, wu_16, wa_16, wl_17, wt_17, wu_17, wa_17, wl_20, wt_20, wu_20, wa_20, wl_21, wt_21, wu_21, wa_21, wl_22, wt_22, wu_22, wa_22, wl_23, wt_23, wu_23, wa_23, wl_24, wt_24, wu_24, wa_24, wl_26, wt_26, wu_26, wa_26, wl_27, wt_27, wu_27, wa_27, wl_28, wt_28, wu_28, wa_28, we_1, we_3, we_10, we_14, we_15, we_16, we_17, we_18, we_20, we_21, we_22, we_24, we_25, we_26, we_27, we_28, we_30, we_31, we_32, wc_20, wc_21, wc_22, wc_24, wc_25, wc_26, wc_27, wc_3, wc_4, wc_7, wc_28, wc_32, ws_1, ws_2, ws_3, ws_4, ws_9, ws_10, ws_11, ws_14, ws_15, ws_16, ws_27, ws_17, ws_20, ws_28, kc_0, kc_1, kn_1, kc_2, kn_2, kc_3, kc_4, kc_5, kc_6, kc_7, kc_8, kc_9, kc_10, kc_12, kc_13, kc_14, kc_16, kc_17, kc_18, kc_19, kc_20, kc_21, kc_22, kc_24, kc_28, kc_30, kc_32, kc_37, kc_40, kc_41, kc_42, kc_43, kc_45, kc_48, kc_56, kc_57, kc_59, kc_60, kc_61, kc_64, kc_73, kc_78, kc_91, kc_95, kc_96, kc_97, kc_98, kc_99, kc_100, kc_112, kc_122, kc_125, kc_126, kc_150, kc_162, kc_163, kc_168, kc_186, kc_190, kc_200, kc_250, kc_255, kc_355, kc_356, kc_404, kc_405, kc_429, kc_573, kc_999, kc_1000, kc_1002, kc_1100, kc_1891, kc_2200, kc_4719, kc_4869, kc_4881, kc_5148, kc_9999, kn_9999, kc_10000, kc_12345, kc_19741, kc_25433, kc_65536, kc_320403, kc_628412, kc_629093, kc_660401, kc_679843, kc_918640, kc_979410, kc_1178088, kc_6232410, kc_24644941, kc_36238189, kc_38270444, kc_392531318, kc_425693491, kc_1103515245, kc_1342154595, kc_2147483648, kc_42328242873, kc_891704255789, kc_1722105685577, kc_1858726030364, ct_0, ct_1, ct_2, ct_3, ct_4, ct_5, cf_0, cf_1, cf_2, cf_3, cf_4, cf_5, w_ty6, w_ty7, m_sv, m_z0, m_hd, m_g0, m_gs, m_s0, m_ss, m_ap, m_an, forall_const, true_and, and_true, ne_eq, not_true_eq_false, not_false_eq_true, false_implies, true_implies, implies_true, eq_self, reduceCtorEq, Nat.reduceDiv, Nat.reduceMod, Int.reduceToNat, or_true, true_or, or_false, false_or, or_self, m_it, m_if, m_c1, m_01, m_02, m_03, m_04, m_10, m_12, m_13, m_14, m_20, m_21, m_23, m_24, m_30, m_31, m_32, m_34, m_40, m_41, m_42, m_43]
  obtain ⟨q, ⟨p1_w, p2_w, p3_w, p4_w, p5_w, p6_w, p7_w⟩, d⟩ := hp
  have ba_w : 0 ≤ h 182 7 ∧ h 182 7 < 1002 := ⟨p2_w, by omega⟩
  have no : ¬tkS h c → ∃ v, [(0 : Int)] = [v] ∧ (v = 0 ∨ v = 1) ∧ (¬v = 0 ↔ tkS h c) := fun k => ⟨0, rfl, Or.inl rfl, fun k2 => absurd rfl k2, fun k2 => absurd k2 k⟩
  exact ⟨fun k1_w => ⟨ba_w, fun k2 => ⟨ba_w, fun k3 => ⟨1, rfl, Or.inr rfl, fun _ => ⟨k1_w, k2, k3⟩, fun _ => by decide⟩, fun k3 => no (fun z => k3 z.2.2)⟩, fun k2 => no (fun z => k2 z.2.1)⟩, fun k1_w => no (fun z => k1_w z.1)⟩
theorem g_193 : G193 P N g (evF xs L ck K cW g_M (n + 1)) := fun h c hp c0 c1_w => by
  suffices hs : ∃ r h', evF xs L ck K cW g_M (n + 1) 193 [182, c] ((a_g3, g), h) = some (1, r, ((a_g3, g), h')) ∧ h' = h ∧ ∃ v, r = [v] ∧ (v = 0 ∨ v = 1) ∧ (v ≠ 0 ↔ tkW h c) by
    obtain ⟨r, h', e1_w, rfl, v, rfl, e2_w⟩ := hs
    exact ⟨v, e1_w, e2_w⟩
  refine tr_of gm_193 (B := fun r h' => h' = h ∧ ∃ v, r = [v] ∧ (v = 0 ∨ v = 1) ∧ (v ≠ 0 ↔ tkW h c)) ?_
  show wS _ _ K bb_193 [182, c] h _
  generalize evF xs L ck K cW g_M n = F
  unfold bb_193
  simp only [wf_4, wf_40, wf_5, wf_50, wf_6, wl_1, wt_1, wu_1, wa_1, wl_4, wt_4, wu_4, wa_4, wl_5, wt_5, wu_5, wa_5, wl_6, wt_6, wu_6, wa_6, wl_9, wt_9, wu_9, wa_9, wl_10, wt_10, wu_10, wa_10, wl_11, wt_11, wu_11, wa_11, wl_13, wt_13, wu_13, wa_13, wl_14, wt_14, wu_14, wa_14, wl_15, wt_15, wu_15, wa_15, wl_16, wt_16, wu_16, wa_16, wl_17, wt_17, wu_17, wa_17, wl_20, wt_20, wu_20, wa_20, wl_21, wt_21, wu_21, wa_21, wl_22, wt_22, wu_22, wa_22, wl_23, wt_23, wu_23, wa_23, wl_24, wt_24, wu_24, wa_24, wl_26, wt_26, wu_26, wa_26, wl_27, wt_27, wu_27, wa_27, wl_28, wt_28, wu_28, wa_28, we_1, we_3, we_10, we_14, we_15, we_16, we_17, we_18, we_20, we_21, we_22, we_24, we_25, we_26, we_27, we_28, we_30, we_31, we_32, wc_20, wc_21, wc_22, wc_24, wc_25, wc_26, wc_27, wc_3, wc_4, wc_7, wc_28, wc_32, ws_1, ws_2, ws_3, ws_4, ws_9, ws_10, ws_11, ws_14, ws_15, ws_16, ws_27, ws_17, ws_20, ws_28, kc_0, kc_1, kn_1, kc_2, kn_2, kc_3, kc_4, kc_5, kc_6, kc_7, kc_8, kc_9, kc_10, kc_12, kc_13, kc_14, kc_16, kc_17, kc_18, kc_19, kc_20, kc_21, kc_22, kc_24, kc_28, kc_30, kc_32, kc_37, kc_40, kc_41, kc_42, kc_43, kc_45, kc_48, kc_56, kc_57, kc_59, kc_60, kc_61, kc_64, kc_73, kc_78, kc_91, kc_95, kc_96, kc_97, kc_98, kc_99, kc_100, kc_112, kc_122, kc_125, kc_126, kc_150, kc_162, kc_163, kc_168, kc_186, kc_190, kc_200, kc_250, kc_255, kc_355, kc_356, kc_404, kc_405, kc_429, kc_573, kc_999, kc_1000, kc_1002, kc_1100, kc_1891, kc_2200, kc_4719, kc_4869, kc_4881, kc_5148, kc_9999, kn_9999, kc_10000, kc_12345, kc_19741, kc_25433, kc_65536, kc_320403, kc_628412, kc_629093, kc_660401, kc_679843, kc_918640, kc_979410, kc_1178088, kc_6232410, kc_24644941, kc_36238189, kc_38270444, kc_392531318, kc_425693491, kc_1103515245, kc_1342154595, kc_2147483648, kc_42328242873, kc_891704255789, kc_1722105685577, kc_1858726030364, ct_0, ct_1, ct_2, ct_3, ct_4, ct_5, cf_0, cf_1, cf_2, cf_3, cf_4, cf_5, w_ty6, w_ty7, m_sv, m_z0, m_hd, m_g0, m_gs, m_s0, m_ss, m_ap, m_an, forall_const, true_and, and_true, ne_eq, not_true_eq_false, not_false_eq_true, false_implies, true_implies, implies_true, eq_self, reduceCtorEq, Nat.reduceDiv, Nat.reduceMod, Int.reduceToNat, or_true, true_or, or_false, false_or, or_self, m_it, m_if, m_c1, m_01, m_02, m_03, m_04, m_10, m_12, m_13, m_14, m_20, m_21, m_23, m_24, m_30, m_31, m_32, m_34, m_40, m_41, m_42, m_43]
  obtain ⟨q, ⟨p1_w, p2_w, p3_w, p4_w, p5_w, p6_w, p7_w⟩, d⟩ := hp
  have ba_w : 0 ≤ h 182 7 ∧ h 182 7 < 1002 := ⟨p2_w, by omega⟩
  have no : ¬tkW h c → ∃ v, [(0 : Int)] = [v] ∧ (v = 0 ∨ v = 1) ∧ (¬v = 0 ↔ tkW h c) := fun k => ⟨0, rfl, Or.inl rfl, fun k2 => absurd rfl k2, fun k2 => absurd k2 k⟩
  exact ⟨fun k1_w => ⟨ba_w, fun k2 => ⟨ba_w, ⟨c0, c1_w⟩, fun k3 => ⟨1, rfl, Or.inr rfl, fun _ => ⟨k1_w, k2, k3⟩, fun _ => by decide⟩, fun k3 => no (fun z => k3 z.2.2)⟩, fun k2 => no (fun z => k2 z.2.1)⟩, fun k1_w => no (fun z => k1_w z.1)⟩
end PAR2
