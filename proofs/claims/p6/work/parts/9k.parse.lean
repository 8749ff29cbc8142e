/-! ===== the reference's parser: what is_w drafted ===== -/
/-- at, fault, some cells_w of the draft and the new_w names_w alone_w are written_w -/
def PF (N : Nat) (W : Nat → Prop) (h h' : XH) : Prop := (∀ o k : Nat, (o = 182 → k ≠ 7 ∧ k ≠ 8) → (o = 188 → ¬W k) → (o = 190 → k < 14) → h' o k = h o k) ∧ 0 ≤ h' 182 8 ∧ InI (h' 182 8) ∧ (h 182 8 ≠ 0 → h' 182 8 = h 182 8) ∧ h 182 7 ≤ h' 182 7 ∧ h' 182 7 ≤ (N : Int)
def G207 (g : Nat × Nat) (F : XP) : Prop := ∀ (h : XH) (a : Int), 0 ≤ a → a < 95 → F 207 [182, a] ((a_g3, g), h) = some (1, [h 188 (95 + a.toNat)], ((a_g3, g), h))
def g_fit (lo_w hi_w : Nat) (t : IT) : Bool := (r_A 188).2.2.all fun r => (Nat.ble hi_w r.1 || Nat.ble r.2.1 lo_w) || i_sub t r.2.2
section PAR8
variable {P : Int × Int} {N : Nat} {g : Nat × Nat} {xs : Nat → Int} {L K n : Nat} {ck : Nat → List Nat} {cW : Nat → Nat → Int} {h h' h1 h2 : XH} {F : XP} {W V : Nat → Prop}
theorem g_fit_ok {lo_w hi_w i : Nat} {t : IT} {v : Int} (hc_w : g_fit lo_w hi_w t = true) (h1 : lo_w ≤ i) (h2 : i < hi_w) (hv : IV P t v) : ∀ r ∈ (r_A 188).2.2, r.1 ≤ i → i < r.2.1 → IV P r.2.2 v := by
  intro r hr k1_w k2
  have h3 := List.all_eq_true.mp hc_w r hr
  simp only [Bool.or_eq_true, Nat.ble_eq] at h3
  exact IV.sub (h3.resolve_left (by omega)) hv
theorem dw_QK (hQ : QK P (r_T 0) (RJ P) h) {q i : Nat} {v : Int} (hH : HT g_fk a_g3 (j_up h q i v)) (hq : (q = 188 ∧ 95 ≤ i) ∨ (q = 189 ∧ 1100 ≤ i) ∨ q = 190 ∨ (q = 191 ∧ 125 ≤ i)) (hv : ∀ r ∈ (r_A q).2.2, r.1 ≤ i → i < r.2.1 → IV P r.2.2 v) : QK P (r_T 0) (RJ P) (j_up h q i v) := by
  have h0 : 0 ≤ h 191 0 ∧ h 191 0 ≤ 30 := by
    have k : IV P (1, 0, 30) (h 191 0) := q_cell hQ (q := 191) (r := 0) (x := (0, 1, (1, 0, 30))) (by decide) rfl rfl (by decide) (by decide)
    exact ⟨k.1, k.2.1⟩
  have m0_w := (q_nM hQ).2
  have c0 := (q_nC hQ).2
  refine ⟨hH, fun k => ?_, fun q' hq' => ?_, ?_⟩
  · rw [up_ne (fun z => by omega)]
    exact hQ.2.1 k
  · by_cases e : q' = q
    · subst e
      intro r hr a b k1_w k2 k3
      have eb : (qA (r_T 0) q').2.1 = 0 := by
        rcases hq with ⟨rfl, _⟩ | ⟨rfl, _⟩ | rfl | ⟨rfl, _⟩ <;> rfl
      have old_w := hQ.2.2.1 q' hq' r hr a b k1_w k2 k3
      rw [eb, Nat.zero_mul, Nat.zero_add] at old_w ⊢
      by_cases e2_w : a = i
      · subst e2_w
        rw [up_eq]
        exact hv r hr k1_w k2
      · rw [up_ne (fun z => e2_w z.2)]
        exact old_w
    · have e2_w : j_up h q i v q' = h q' := funext fun i => up_ne (fun z => e z.1)
      rw [e2_w]
      exact hQ.2.2.1 q' hq'
  · obtain ⟨⟨j1, j1'⟩, j2_w, j3_w⟩ := hQ.2.2.2
    have lo_w : ∀ k, k < 95 → j_up h q i v 188 k = h 188 k := fun k hk => up_ne (fun z => by omega)
    have lc : ∀ k, k < 1100 → j_up h q i v 189 k = h 189 k := fun k hk => up_ne (fun z => by omega)
    have ll : ∀ k, k < 125 → j_up h q i v 191 k = h 191 k := fun k hk => up_ne (fun z => by omega)
    refine ⟨⟨fun m hm_w => ?_, fun c hc_w => ?_⟩, fun z => ?_, fun n hn => ?_⟩
    · rw [lo_w _ (by omega)]
      exact j1 m hm_w
    · rw [lo_w _ (by omega)]
      exact j1' c hc_w
    · rw [lo_w 4 (by decide)] at z ⊢
      exact (j2_w z).up lc
    · rw [ll 0 (by decide)] at hn
      rw [ll _ (by omega), ll _ (by omega), ll _ (by omega), ll _ (by omega)]
      exact j3_w n hn
theorem PA.pf (a : PA N h h') : PF N W h h' := ⟨fun o k e _ _ => a.1 o k e, a.2⟩
theorem PF.tr (a : PF N W h h') (b : PF N W h' h2) : PF N W h h2 := by
  obtain ⟨a1_w, a2, a3, a4, a5, a6⟩ := a
  obtain ⟨b1, b2, b3, b4, b5, b6⟩ := b
  exact ⟨fun o k e e2_w e3_w => (b1 o k e e2_w e3_w).trans (a1_w o k e e2_w e3_w), b2, b3, fun e => by rw [b4 (by rw [a4 e]; exact e), a4 e], by omega, b6⟩
theorem PF.mono (a : PF N W h h') (hw : ∀ k, W k → V k) : PF N V h h' := ⟨fun o k e e2_w e3_w => a.1 o k e (fun z z2 => e2_w z (hw k z2)) e3_w, a.2⟩
/-- what PK asks_w, from the frame_w -/
theorem PF.pt (hp : PT N h) (a : PF N W h h') : PT N h' := by
  obtain ⟨a1_w, a2, a3, a4, a5, a6⟩ := a
  obtain ⟨p1_w, p2_w, p3_w, p4_w, p5_w, p6_w, p7_w, p8_w⟩ := hp
  have e12_w : h' 182 12 = h 182 12 := a1_w 182 12 (fun _ => by decide) (fun z => absurd z (by decide)) (fun z => absurd z (by decide))
  refine ⟨a2, by omega, a6, p4_w, ?_, by omega, by omega, fun i hi_w hs => ?_⟩
  · rw [a1_w 184 N (fun z => absurd z (by decide)) (fun z => absurd z (by decide)) (fun z => absurd z (by decide))]
    exact p5_w
  · rw [a1_w 184 i (fun z => absurd z (by decide)) (fun z => absurd z (by decide)) (fun z => absurd z (by decide))] at hs
    rw [a1_w 186 i (fun z => absurd z (by decide)) (fun z => absurd z (by decide)) (fun z => absurd z (by decide))]
    exact p8_w i hi_w hs
theorem DG.up (hQ : QK P (r_T 0) (RJ P) h) (hd_w : DG h) (e1_w : h' 188 96 = h 188 96) (e2_w : h' 188 98 = h 188 98) (em : ∀ m : Nat, (m : Int) < h 188 98 → h' 188 (169 + 3 * m) = h 188 (169 + 3 * m)) (ec : ∀ c : Nat, (c : Int) < h 188 96 → h' 188 (113 + 14 * c) = h 188 (113 + 14 * c)) : DG h' := by
  refine ⟨fun m hm_w => ?_, fun c hc_w => ?_⟩
  · rw [e2_w] at hm_w
    rw [e1_w]
    have k := hd_w.1 m hm_w
    have e := em m hm_w
    rw [show 95 + (74 + 3 * m) = 169 + 3 * m by omega] at k ⊢
    rw [e]
    exact k
  · rw [e1_w] at hc_w
    have k := hd_w.2 c hc_w
    have e := ec c hc_w
    rw [show 95 + (18 + 14 * c) = 113 + 14 * c by omega] at k ⊢
    rw [e]
    exact k
theorem g_207 : G207 g (evF xs L ck K cW g_M (n + 1)) := fun h a a0_w a1_w => by
  suffices hs : ∃ r h', evF xs L ck K cW g_M (n + 1) 207 [182, a] ((a_g3, g), h) = some (1, r, ((a_g3, g), h')) ∧ r = [h 188 (95 + a.toNat)] ∧ h' = h by
    obtain ⟨r, h', e1_w, rfl, rfl⟩ := hs
    exact e1_w
  refine tr_of gm_207 (B := fun r h' => r = [h 188 (95 + a.toNat)] ∧ h' = h) ?_
  show wS _ _ K bb_207 [182, a] h _
  generalize evF xs L ck K cW g_M n = F
  unfold bb_207
  simp only [wf_4, wf_40, wf_5, wf_50, wf_6, wl_1, wt_1, wu_1, wa_1, wl_4, wt_4, wu_4, wa_4, wl_5, wt_5, wu_5, wa_5, wl_6, wt_6, wu_6, wa_6, wl_9, wt_9, wu_9, wa_9, wl_10, wt_10, wu_10, wa_10, wl_11, wt_11, wu_11, wa_11, wl_13, wt_13, wu_13, wa_13, wl_14, wt_14, wu_14, wa_14, wl_15, wt_15, wu_15, wa_15, wl_16, wt_16, wu_16, wa_16, wl_17, wt_17, wu_17, wa_17, wl_20, wt_20, wu_20, wa_20, wl_21, wt_21, wu_21, wa_21, wl_22, wt_22, wu_22, wa_22, wl_23, wt_23, wu_23, wa_23, wl_24, wt_24, wu_24, wa_24, wl_26, wt_26, wu_26, wa_26, wl_27, wt_27, wu_27, wa_27, wl_28, wt_28, wu_28, wa_28, we_1, we_3, we_10, we_14, we_15, we_16, we_17, we_18, we_20, we_21, we_22, we_24, we_25, we_26, we_27, we_28, we_30, we_31, we_32, wc_20, wc_21, wc_22, wc_24, wc_25, wc_26, wc_27, wc_3, wc_4, wc_7, wc_28, wc_32, ws_1, ws_2, ws_3, ws_4, ws_9, ws_10, ws_11, ws_14, ws_15, ws_16, ws_27, ws_17, ws_20, ws_28, kc_0, kc_1, kn_1, kc_2, kn_2, kc_3, kc_4, kc_5, kc_6, kc_7, kc_8, kc_9, kc_10, kc_12, kc_13, kc_14, kc_16, kc_17, kc_18, kc_19, kc_20, kc_21, kc_22, kc_24, kc_28, kc_30, kc_32, kc_37, kc_40, kc_41, kc_42, kc_43, kc_45, kc_48, kc_56, kc_57, kc_59, kc_60, kc_61, kc_64, kc_73, kc_78, kc_91, kc_95, kc_96, kc_97, kc_98, kc_99, kc_100, kc_112, kc_122, kc_125, kc_126, kc_150, kc_162, kc_163, kc_168, kc_186, kc_190, kc_200, kc_250, kc_255, kc_355, kc_356, kc_404, kc_405, kc_429, kc_573, kc_999, kc_1000, kc_1002, kc_1100, kc_1891, kc_2200, kc_4719, kc_4869, kc_4881, kc_5148, kc_9999, kn_9999, kc_10000, kc_12345, kc_19741, kc_25433, kc_65536, kc_320403, kc_628412, kc_629093, kc_660401, kc_679843, kc_918640, kc_979410, kc_1178088, kc_6232410, kc_24644941, kc_36238189, kc_38270444, kc_392531318, kc_425693491, kc_1103515245, kc_1342154595, kc_2147483648, kc_42328242873, kc_891704255789, kc_1722105685577, kc_1858726030364, ct_0, ct_1, ct_2, ct_3, ct_4, ct_5, cf_0, cf_1, cf_2, cf_3, cf_4, cf_5, w_ty6, w_ty7, m_sv, m_z0, m_hd, m_g0, m_gs, m_s0, m_ss, m_ap, m_an, forall_const, true_and, and_true, ne_eq, not_true_eq_false, not_false_eq_true, false_implies, true_implies, implies_true, eq_self, reduceCtorEq, Nat.reduceDiv, Nat.reduceMod, Int.reduceToNat, or_true, true_or, or_false, false_or, or_self, m_it, m_if, m_c1, m_01, m_02, m_03, m_04, m_10, m_12, m_13, m_14, m_20, m_21, m_23, m_24, m_30, m_31, m_32, m_34, m_40, m_41, m_42, m_43]
  rw [jadd (x := 95) (y := a) (by omega) (by omega), show (95 + a).toNat = 95 + a.toNat by omega]
  exact ⟨⟨by omega, by omega⟩, rfl⟩
end PAR8
/-- a word that may_w be told_w once alone_w -/
def G209 (P : Int × Int) (N : Nat) (g : Nat × Nat) (F : XP) : Prop := ∀ (h : XH) (k : Int), PK P N h → h 182 8 = 0 → h 184 (h 182 7).toNat ≠ 0 → 0 ≤ k → k ≤ 2 → ∃ v h', F 209 [182, k] ((a_g3, g), h) = some (1, [v], ((a_g3, g), h')) ∧ PK P N h' ∧ PF N (fun i => i = 186) h h' ∧ (v ≠ 0 → h' 182 7 = h 182 7 + 1 ∧ h' 182 8 = 0) ∧ (v = 0 → h' 182 8 ≠ 0)
/-- a new_w name_w -/
def G208 (P : Int × Int) (N : Nat) (g : Nat × Nat) (F : XP) : Prop := ∀ (h : XH) (a b c : Int), PK P N h → h 182 8 = 0 → h 184 (h 182 7).toNat ≠ 0 → 0 ≤ a → 0 ≤ b → b ≤ c → a + c ≤ 14 → ∃ h', F 208 [182, a, b, c] ((a_g3, g), h) = some (1, [], ((a_g3, g), h')) ∧ PK P N h' ∧ PF N (fun _ => False) h h' ∧ (h' 182 8 = 0 → b < c)
section PAR9
variable {P : Int × Int} {N : Nat} {g : Nat × Nat} {xs : Nat → Int} {L K n : Nat} {ck : Nat → List Nat} {cW : Nat → Nat → Int} {h h' h1 h2 : XH} {F : XP}
theorem g_209 (c191 : G191 P N g (evF xs L ck K cW g_M n)) (c207 : G207 g (evF xs L ck K cW g_M n)) : G209 P N g (evF xs L ck K cW g_M (n + 1)) := fun h k hp f0_w ht k0_w k2 => by
  suffices hs : ∃ r h', evF xs L ck K cW g_M (n + 1) 209 [182, k] ((a_g3, g), h) = some (1, r, ((a_g3, g), h')) ∧ ∃ v, r = [v] ∧ PK P N h' ∧ PF N (fun i => i = 186) h h' ∧ (v ≠ 0 → h' 182 7 = h 182 7 + 1 ∧ h' 182 8 = 0) ∧ (v = 0 → h' 182 8 ≠ 0) by
    obtain ⟨r, h', e1_w, v, rfl, e2_w⟩ := hs
    exact ⟨v, h', e1_w, e2_w⟩
  refine tr_of gm_209 (B := fun r h' => ∃ v, r = [v] ∧ PK P N h' ∧ PF N (fun i => i = 186) h h' ∧ (v ≠ 0 → h' 182 7 = h 182 7 + 1 ∧ h' 182 8 = 0) ∧ (v = 0 → h' 182 8 ≠ 0)) ?_
  show wS _ _ K bb_209 [182, k] h _
  generalize evF xs L ck K cW g_M n = F at c191 c207 ⊢
  unfold bb_209
  simp only [wf_4, wf_40, wf_5, wf_50, wf_6, wl_1, wt_1, wu_1, wa_1, wl_4, wt_4, wu_4, wa_4, wl_5, wt_5, wu_5, wa_5, wl_6, wt_6, wu_6, wa_6, wl_9, wt_9, wu_9, wa_9, wl_10, wt_10, wu_10, wa_10, wl_11, wt_11, wu_11, wa_11, wl_13, wt_13, wu_13, wa_13, wl_14, wt_14, wu_14, wa_14, wl_15, wt_15, wu_15, wa_15, wl_16, wt_16, wu_16, wa_16, wl_17, wt_17, wu_17, wa_17, wl_20, wt_20, wu_20, wa_20, wl_21, wt_21, wu_21, wa_21, wl_22, wt_22, wu_22, wa_22, wl_23, wt_23, wu_23, wa_23, wl_24, wt_24, wu_24, wa_24, wl_26, wt_26, wu_26, wa_26, wl_27, wt_27, wu_27, wa_27, wl_28, wt_28, wu_28, wa_28, we_1, we_3, we_10, we_14, we_15, we_16, we_17, we_18, we_20, we_21, we_22, we_24, we_25, we_26, we_27, we_28, we_30, we_31, we_32, wc_20, wc_21, wc_22, wc_24, wc_25, wc_26, wc_27, wc_3, wc_4, wc_7, wc_28, wc_32, ws_1, ws_2, ws_3, ws_4, ws_9, ws_10, ws_11, ws_14, ws_15, ws_16, ws_27, ws_17, ws_20, ws_28, kc_0, kc_1, kn_1, kc_2, kn_2, kc_3, kc_4, kc_5, kc_6, kc_7, kc_8, kc_9, kc_10, kc_12, kc_13, kc_14, kc_16, kc_17, kc_18, kc_19, kc_20, kc_21, kc_22, kc_24, kc_28, kc_30, kc_32, kc_37, kc_40, kc_41, kc_42, kc_43, kc_45, kc_48, kc_56, kc_57, kc_59, kc_60, kc_61, kc_64, kc_73, kc_78, kc_91, kc_95, kc_96, kc_97, kc_98, kc_99, kc_100, kc_112, kc_122, kc_125, kc_126, kc_150, kc_162, kc_163, kc_168, kc_186, kc_190, kc_200, kc_250, kc_255, kc_355, kc_356, kc_404, kc_405, kc_429, kc_573, kc_999, kc_1000, kc_1002, kc_1100, kc_1891, kc_2200, kc_4719, kc_4869, kc_4881, kc_5148, kc_9999, kn_9999, kc_10000, kc_12345, kc_19741, kc_25433, kc_65536, kc_320403, kc_628412, kc_629093, kc_660401, kc_679843, kc_918640, kc_979410, kc_1178088, kc_6232410, kc_24644941, kc_36238189, kc_38270444, kc_392531318, kc_425693491, kc_1103515245, kc_1342154595, kc_2147483648, kc_42328242873, kc_891704255789, kc_1722105685577, kc_1858726030364, ct_0, ct_1, ct_2, ct_3, ct_4, ct_5, cf_0, cf_1, cf_2, cf_3, cf_4, cf_5, w_ty6, w_ty7, m_sv, m_z0, m_hd, m_g0, m_gs, m_s0, m_ss, m_ap, m_an, forall_const, true_and, and_true, ne_eq, not_true_eq_false, not_false_eq_true, false_implies, true_implies, implies_true, eq_self, reduceCtorEq, Nat.reduceDiv, Nat.reduceMod, Int.reduceToNat, or_true, true_or, or_false, false_or, or_self, m_it, m_if, m_c1, m_01, m_02, m_03, m_04, m_10, m_12, m_13, m_14, m_20, m_21, m_23, m_24, m_30, m_31, m_32, m_34, m_40, m_41, m_42, m_43]
  refine ⟨_, h, c207 h 91 (by decide) (by decide), fun _ => ?_, fun _ => ⟨⟨by decide, by decide⟩, ?_⟩⟩
  · obtain ⟨h1, e1_w, e2_w, e3_w, e4_w, -⟩ := c191 h 3 hp (by decide) (by decide)
    exact ⟨[], h1, e1_w, 0, rfl, hp.pa e2_w, e2_w.pf, fun z => absurd rfl z, fun _ => e4_w⟩
  · generalize hw : j_iop 4 (h 188 186) (j_iop 6 1 k) = w
    have hin : InI w := by
      rw [← hw]
      exact iop_in 4 _ _
    have q1_w : QK P (r_T 0) (RJ P) (j_up h 188 186 w) := dw_QK hp.1 (ht_up hp.1.1 (by decide) hin) (Or.inl ⟨rfl, by decide⟩) (g_fit_ok (lo_w := 186) (hi_w := 187) (t := (1, (-2147483648), 2147483647)) (by decide +kernel) (by decide) (by decide) (IV.top hin))
    have e1_w : PF N (fun i => i = 186) h (j_up h 188 186 w) := ⟨fun o i e e2_w e3_w => up_ne (fun z => e2_w z.1 z.2), by rw [up_ne (fun z => absurd z.1 (by decide))]; exact hp.2.1.1, by rw [up_ne (fun z => absurd z.1 (by decide))]; exact ht_fld hp.1 rfl, fun _ => up_ne (fun z => absurd z.1 (by decide)), by rw [up_ne (fun z => absurd z.1 (by decide))]; exact Int.le_refl _, by rw [up_ne (fun z => absurd z.1 (by decide))]; exact hp.2.1.2.2.1⟩
    have p1_w : PK P N (j_up h 188 186 w) := ⟨q1_w, e1_w.pt hp.2.1, DG.up hp.1 hp.2.2 (up_ne (fun z => absurd z.2 (by decide))) (up_ne (fun z => absurd z.2 (by decide))) (fun m _ => up_ne (fun z => by have := z.2; omega)) (fun m _ => up_ne (fun z => by have := z.2; omega))⟩
    have e7_w : j_up h 188 186 w 182 7 = h 182 7 := up_ne (fun z => absurd z.1 (by decide))
    have e8 : j_up h 188 186 w 182 8 = h 182 8 := up_ne (fun z => absurd z.1 (by decide))
    have t1_w : j_up h 188 186 w 184 (j_up h 188 186 w 182 7).toNat ≠ 0 := by
      rw [e7_w, up_ne (fun z => absurd z.1 (by decide))]
      exact ht
    have n1_w := PA.next p1_w t1_w
    rw [jat p1_w]
    exact ⟨1, rfl, p1_w.pa n1_w, e1_w.tr n1_w.pf, fun _ => ⟨by rw [up_eq, e7_w], by rw [up_ne (fun z => absurd z.2 (by decide)), e8]; exact f0_w⟩, fun z => absurd z (by decide)⟩
end PAR9
