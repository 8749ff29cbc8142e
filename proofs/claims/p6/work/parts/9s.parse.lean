/-! ===== the reference's parser: what is_w to be done ===== -/
def G190 (P : Int × Int) (g : Nat × Nat) (F : XP) : Prop := ∀ (h : XH), QK P (r_T 0) (RJ P) h → DG h → 0 ≤ h 182 12 → h 182 12 ≤ 1001 → ∃ N h', F 190 [182] ((a_g3, g), h) = some (1, [], ((a_g3, g), h')) ∧ PK P N h' ∧ h' 182 7 = 0 ∧ ∀ o k : Nat, (o = 182 → k ≠ 2 ∧ k ≠ 3 ∧ k ≠ 7 ∧ k ≠ 8) → (o ≠ 184 ∧ o ≠ 185 ∧ o ≠ 186) → h' o k = h o k
/-- what lasts from call to call, beside the class's side_w -/
def LQ (h : XH) : Prop := ∃ P, QK P (r_T 0) (RJ P) h ∧ DG h ∧ 0 ≤ h 182 12 ∧ h 182 12 ≤ 1001
def B214 (P : Int × Int) (r : List Int) (h' : XH) : Prop := ∃ v, r = [v] ∧ InI v ∧ QK P (r_T 0) (RJ P) h' ∧ DG h' ∧ 0 ≤ h' 182 12 ∧ h' 182 12 ≤ 1001
section PARH
variable {P : Int × Int} {N : Nat} {g : Nat × Nat} {xs : Nat → Int} {L K n : Nat} {ck : Nat → List Nat} {cW : Nat → Nat → Int} {h h' h1 h2 : XH} {F : XP}
/-- the lines that are drafted -/
def DW (P : Int × Int) (m : Nat) (h : XH) : Prop := h 182 8 = 0 → ∀ i : Nat, i < m → LineOK P (h 191 (125 + 4 * i)) (h 191 (126 + 4 * i)) (h 191 (127 + 4 * i)) (h 191 (128 + 4 * i))
theorem DW.pa {m : Nat} (d : DW P m h) (a : PA N h h') : DW P m h' := fun z i hi_w => by
  rw [a.ob (by decide)]
  exact d (pa_0 a z) i hi_w
theorem cp_214 {m : Nat} {R : Nat → List Int → List Int → XH → Prop} (hK_w : 4294967300 ≤ K) (hp : PK P N h) (m30 : m ≤ 30) (hw : ∀ i : Nat, i < m → LineOK P (h 191 (125 + 4 * i)) (h 191 (126 + 4 * i)) (h 191 (127 + 4 * i)) (h 191 (128 + 4 * i))) (c0 : 0 ≤ h 182 12) (c1_w : h 182 12 ≤ 1001) (hR : ∀ en h', QK P (r_T 0) (RJ P) h' → DG h' → h' 182 12 = h 182 12 → R 0 [] en h') : wS (a_g3, g) F K (sx 12 (sx 20 (sx 3 (sv 2) z0 z0) (sx 14 (sx 1 (sv 4) (sv 1) z0) (sx 3 (sv 1) z0 z0) (sv 2)) (sv 2)) (sx 20 (sx 7 (sx 5 (sx 3 z0 z0 z0) (sv 14) z0) (sx 14 (sx 1 (sv 1) (sv 1) z0) (sx 3 (sv 2) z0 z0) z0) (so 6 (sx 7 (sx 5 (sx 3 z0 z0 z0) (sv 14) z0) (sx 14 (sx 1 (sv 125) (sv 1) z0) (sx 3 (sv 2) z0 z0) z0) z0))) z0 z0) (sx 4 (sv 2) (sv 1) z0)) [182, (m : Int), 0] (j_up h 191 0 (m : Int)) R := by
  refine w_lp (fun en h' => ∃ k : Nat, en = [182, (m : Int), (k : Int)] ∧ k ≤ 4 * m ∧ HT g_fk a_g3 h' ∧ (∀ o i : Nat, (o = 191 → 125 ≤ i) → h' o i = h o i) ∧ h' 191 0 = (m : Int) ∧ ∀ i : Nat, i < k → h' 191 (1 + i) = h 191 (125 + i)) (fun en _ => 4 * m - (en.getD 2 0).toNat) ⟨0, rfl, by omega, ht_up hp.1.1 (by decide) ⟨by omega, by omega⟩, fun o i e => up_ne (fun z => by have := e z.1; have := z.2; omega), up_eq, fun i hi_w => by omega⟩ ?_
  rintro en h1 ⟨k, rfl, k4, H1_w, f1_w, z1, d1_w⟩
  refine ⟨?_, ?_⟩
  · show 4 * m - ((k : Int)).toNat < K
    omega
  simp only [wf_4, wf_40, wf_5, wf_50, wf_6, wl_1, wt_1, wu_1, wa_1, wl_4, wt_4, wu_4, wa_4, wl_5, wt_5, wu_5, wa_5, wl_6, wt_6, wu_6, wa_6, wl_9, wt_9, wu_9, wa_9, wl_10, wt_10, wu_10, wa_10, wl_11, wt_11, wu_11, wa_11, wl_13, wt_13, wu_13, wa_13, wl_14, wt_14, wu_14, wa_14, wl_15, wt_15, wu_15, wa_15, wl_16, wt_16, wu_16, wa_16, wl_17, wt_17, wu_17, wa_17, wl_20, wt_20, wu_20, wa_20, wl_21, wt_21, wu_21, wa_21, wl_22, wt_22, wu_22, wa_22, wl_23, wt_23, wu_23, wa_23, wl_24, wt_24, wu_24, wa_24, wl_26, wt_26, wu_26, wa_26, wl_27, wt_27, wu_27, wa_27, wl_28, wt_28, wu_28, wa_28, we_1, we_3, we_10, we_14, we_15, we_16, we_17, we_18, we_20, we_21, we_22, we_24, we_25, we_26, we_27, we_28, we_30, we_31, we_32, wc_20, wc_21, wc_22, wc_24, wc_25, wc_26, wc_27, wc_3, wc_4, wc_7, wc_28, wc_32, ws_1, ws_2, ws_3, ws_4, ws_9, ws_10, ws_11, ws_14, ws_15, ws_16, ws_27, ws_17, ws_20, ws_28, kc_0, kc_1, kn_1, kc_2, kn_2, kc_3, kc_4, kc_5, kc_6, kc_7, kc_8, kc_9, kc_10, kc_12, kc_13, kc_14, kc_16, kc_17, kc_18, kc_19, kc_20, kc_21, kc_22, kc_24, kc_28, kc_30, kc_32, kc_37, kc_40, kc_41, kc_42, kc_43, kc_45, kc_48, kc_56, kc_57, kc_59, kc_60, kc_61, kc_64, kc_73, kc_78, kc_91, kc_95, kc_96, kc_97, kc_98, kc_99, kc_100, kc_112, kc_122, kc_125, kc_126, kc_150, kc_162, kc_163, kc_168, kc_186, kc_190, kc_200, kc_250, kc_255, kc_355, kc_356, kc_404, kc_405, kc_429, kc_573, kc_999, kc_1000, kc_1002, kc_1100, kc_1891, kc_2200, kc_4719, kc_4869, kc_4881, kc_5148, kc_9999, kn_9999, kc_10000, kc_12345, kc_19741, kc_25433, kc_65536, kc_320403, kc_628412, kc_629093, kc_660401, kc_679843, kc_918640, kc_979410, kc_1178088, kc_6232410, kc_24644941, kc_36238189, kc_38270444, kc_392531318, kc_425693491, kc_1103515245, kc_1342154595, kc_2147483648, kc_42328242873, kc_891704255789, kc_1722105685577, kc_1858726030364, ct_0, ct_1, ct_2, ct_3, ct_4, ct_5, cf_0, cf_1, cf_2, cf_3, cf_4, cf_5, w_ty6, w_ty7, m_sv, m_z0, m_hd, m_g0, m_gs, m_s0, m_ss, m_ap, m_an, forall_const, true_and, and_true, ne_eq, not_true_eq_false, not_false_eq_true, false_implies, true_implies, implies_true, eq_self, reduceCtorEq, Nat.reduceDiv, Nat.reduceMod, Int.reduceToNat, or_true, true_or, or_false, false_or, or_self, m_it, m_if, m_c1, m_01, m_02, m_03, m_04, m_10, m_12, m_13, m_14, m_20, m_21, m_23, m_24, m_30, m_31, m_32, m_34, m_40, m_41, m_42, m_43]
  rw [jmul (x := 4) (y := (m : Int)) (by omega) (by omega)]
  refine ⟨fun hk => ?_, fun hk => ?_⟩
  · rw [jadd (x := 125) (y := (k : Int)) (by omega) (by omega), jadd (x := 1) (y := (k : Int)) (by omega) (by omega), jinc (by omega) (by omega), show (125 + (k : Int)).toNat = 125 + k by omega, show (1 + (k : Int)).toNat = 1 + k by omega]
    refine ⟨⟨by omega, by omega⟩, ⟨by omega, by omega⟩, ⟨k + 1, rfl, by omega, ht_up H1_w (by decide) (ht_int H1_w (by decide) _), fun o i e => ?_, ?_, fun i hi_w => ?_⟩, ?_⟩
    · rw [up_ne (fun z => by have := e z.1; have := z.2; omega)]
      exact f1_w o i e
    · rw [up_ne (fun z => by have := z.2; omega)]
      exact z1
    · by_cases e : i = k
      · rw [e, up_eq]
        exact f1_w 191 _ (fun _ => by omega)
      · rw [up_ne (fun z => by have := z.2; omega)]
        exact d1_w i (by omega)
    · show 4 * m - ((k : Int) + 1).toNat < 4 * m - ((k : Int)).toNat
      omega
  · have ek : k = 4 * m := by omega
    subst ek
    have a188 : h1 188 = h 188 := funext fun i => f1_w 188 i (fun z => absurd z (by decide))
    have a189 : h1 189 = h 189 := funext fun i => f1_w 189 i (fun z => absurd z (by decide))
    refine hR _ _ ⟨H1_w, fun i => ?_, fun q hq => ?_, ?_⟩ ?_ (f1_w 182 12 (fun z => absurd z (by decide)))
    · rw [f1_w 182 i (fun z => absurd z (by decide))]
      exact hp.1.2.1 i
    · by_cases e : q = 191
      · subst e
        intro r hr i j k1_w k2 k3
        have hr2 : r ∈ [(0, 1, ((1, 0, 30) : IT)), (1, 250, (1, (-2147483648), 2147483647))] := hr
        have eb : (qA (r_T 0) 191).2.1 = 0 := rfl
        rw [eb, Nat.zero_mul, Nat.zero_add]
        rcases List.mem_cons.mp hr2 with rfl | hr3
        · have i0 : i = 0 := by
            have : i < 1 := k2
            omega
          rw [i0, z1]
          exact ⟨by omega, by omega, by omega, by omega⟩
        · rw [List.mem_singleton] at hr3
          subst hr3
          exact IV.top (ht_int H1_w (by decide) _)
      · have e2_w : h1 q = h q := funext fun i => f1_w q i (fun z => absurd z e)
        rw [e2_w]
        exact hp.1.2.2.1 q hq
    · refine ⟨by rw [a188]; exact hp.1.2.2.2.1, by rw [a188, a189]; exact hp.1.2.2.2.2.1, fun i hi_w => ?_⟩
      rw [z1] at hi_w
      have w := hw i (by omega)
      rw [d1_w (4 * i) (by omega), show 2 + 4 * i = 1 + (4 * i + 1) by omega, show 3 + 4 * i = 1 + (4 * i + 2) by omega, show 4 + 4 * i = 1 + (4 * i + 3) by omega, d1_w _ (by omega), d1_w _ (by omega), d1_w _ (by omega)]
      rw [show 125 + (4 * i + 1) = 126 + 4 * i by omega, show 125 + (4 * i + 2) = 127 + 4 * i by omega, show 125 + (4 * i + 3) = 128 + 4 * i by omega]
      exact w
    · unfold DG
      rw [a188]
      exact hp.2.2
theorem t_214 (hK_w : 4294967300 ≤ K) (c190 : G190 P g (evF xs L ck K cW g_M n)) (c191 : ∀ N, G191 P N g (evF xs L ck K cW g_M n)) (c194 : ∀ N, G194 P N g (evF xs L ck K cW g_M n)) (c201 : ∀ N, G201 P N g (evF xs L ck K cW g_M n)) (c215 : ∀ N, G215 P N g (evF xs L ck K cW g_M n)) (hQ : QK P (r_T 0) (RJ P) h) (hD : DG h) (h0 : 0 ≤ h 182 12) (h1 : h 182 12 ≤ 1001) : ∃ r h', evF xs L ck K cW g_M (n + 1) 214 [182] ((a_g3, g), h) = some (1, r, ((a_g3, g), h')) ∧ B214 P r h' := by
  refine tr_of gm_214 ?_
  show wS _ _ K bb_214 [182, 0, 0] h _
  generalize evF xs L ck K cW g_M n = F at c190 c191 c194 c201 c215 ⊢
  unfold bb_214
  simp only [wf_4, wf_40, wf_5, wf_50, wf_6, wl_1, wt_1, wu_1, wa_1, wl_4, wt_4, wu_4, wa_4, wl_5, wt_5, wu_5, wa_5, wl_6, wt_6, wu_6, wa_6, wl_9, wt_9, wu_9, wa_9, wl_10, wt_10, wu_10, wa_10, wl_11, wt_11, wu_11, wa_11, wl_13, wt_13, wu_13, wa_13, wl_14, wt_14, wu_14, wa_14, wl_15, wt_15, wu_15, wa_15, wl_16, wt_16, wu_16, wa_16, wl_17, wt_17, wu_17, wa_17, wl_20, wt_20, wu_20, wa_20, wl_21, wt_21, wu_21, wa_21, wl_22, wt_22, wu_22, wa_22, wl_23, wt_23, wu_23, wa_23, wl_24, wt_24, wu_24, wa_24, wl_26, wt_26, wu_26, wa_26, wl_27, wt_27, wu_27, wa_27, wl_28, wt_28, wu_28, wa_28, we_1, we_3, we_10, we_14, we_15, we_16, we_17, we_18, we_20, we_21, we_22, we_24, we_25, we_26, we_27, we_28, we_30, we_31, we_32, wc_20, wc_21, wc_22, wc_24, wc_25, wc_26, wc_27, wc_3, wc_4, wc_7, wc_28, wc_32, ws_1, ws_2, ws_3, ws_4, ws_9, ws_10, ws_11, ws_14, ws_15, ws_16, ws_27, ws_17, ws_20, ws_28, kc_0, kc_1, kn_1, kc_2, kn_2, kc_3, kc_4, kc_5, kc_6, kc_7, kc_8, kc_9, kc_10, kc_12, kc_13, kc_14, kc_16, kc_17, kc_18, kc_19, kc_20, kc_21, kc_22, kc_24, kc_28, kc_30, kc_32, kc_37, kc_40, kc_41, kc_42, kc_43, kc_45, kc_48, kc_56, kc_57, kc_59, kc_60, kc_61, kc_64, kc_73, kc_78, kc_91, kc_95, kc_96, kc_97, kc_98, kc_99, kc_100, kc_112, kc_122, kc_125, kc_126, kc_150, kc_162, kc_163, kc_168, kc_186, kc_190, kc_200, kc_250, kc_255, kc_355, kc_356, kc_404, kc_405, kc_429, kc_573, kc_999, kc_1000, kc_1002, kc_1100, kc_1891, kc_2200, kc_4719, kc_4869, kc_4881, kc_5148, kc_9999, kn_9999, kc_10000, kc_12345, kc_19741, kc_25433, kc_65536, kc_320403, kc_628412, kc_629093, kc_660401, kc_679843, kc_918640, kc_979410, kc_1178088, kc_6232410, kc_24644941, kc_36238189, kc_38270444, kc_392531318, kc_425693491, kc_1103515245, kc_1342154595, kc_2147483648, kc_42328242873, kc_891704255789, kc_1722105685577, kc_1858726030364, ct_0, ct_1, ct_2, ct_3, ct_4, ct_5, cf_0, cf_1, cf_2, cf_3, cf_4, cf_5, w_ty6, w_ty7, m_sv, m_z0, m_hd, m_g0, m_gs, m_s0, m_ss, m_ap, m_an, forall_const, true_and, and_true, ne_eq, not_true_eq_false, not_false_eq_true, false_implies, true_implies, implies_true, eq_self, reduceCtorEq, Nat.reduceDiv, Nat.reduceMod, Int.reduceToNat, or_true, true_or, or_false, false_or, or_self, m_it, m_if, m_c1, m_01, m_02, m_03, m_04, m_10, m_12, m_13, m_14, m_20, m_21, m_23, m_24, m_30, m_31, m_32, m_34, m_40, m_41, m_42, m_43]
  have q0 : QK P (r_T 0) (RJ P) (j_up h 182 0 0) := (fd_QK hQ rj_js (k := 0) (Or.inl rfl) ⟨by decide, by decide, in_0⟩).1
  have e12_w : j_up h 182 0 0 182 12 = h 182 12 := up_ne (fun z => absurd z.2 (by decide))
  have d0_w : DG (j_up h 182 0 0) := DG.up hQ hD (up_ne (fun z => absurd z.1 (by decide))) (up_ne (fun z => absurd z.1 (by decide))) (fun m _ => up_ne (fun z => absurd z.1 (by decide))) (fun m _ => up_ne (fun z => absurd z.1 (by decide)))
  obtain ⟨N, h2, x2_w, p2_w, at2_w, fr2⟩ := c190 _ q0 d0_w (by rw [e12_w]; exact h0) (by rw [e12_w]; exact h1)
  replace c191 := c191 N
  replace c194 := c194 N
  replace c201 := c201 N
  replace c215 := c215 N
  have i12 : h2 182 12 = h 182 12 := (fr2 182 12 (fun _ => by decide) (by decide)).trans e12_w
  refine ⟨[], h2, x2_w, ?_⟩
  refine w_lp (fun en h' => ∃ (m : Nat) (w : Int), en = [182, (m : Int), w] ∧ m ≤ 30 ∧ PK P N h' ∧ DW P m h' ∧ h' 182 12 = h 182 12) (fun _ h' => 2 * ((N : Int) - h' 182 7).toNat + (if h' 182 8 = 0 then 1 else 0)) ⟨0, 0, rfl, by decide, p2_w, fun _ i hi_w => by omega, i12⟩ ?_
  rintro en h3 ⟨m, w, rfl, m30, p3_w, w3_w, e3_w⟩
  have b1 := p3_w.2.1.1
  have b2 := p3_w.2.1.2.1
  have b3 := p3_w.2.1.2.2.1
  have b4 := p3_w.2.1.2.2.2.1
  refine ⟨?_, ?_⟩
  · show 2 * ((N : Int) - h3 182 7).toNat + (if h3 182 8 = 0 then 1 else 0) < K
    split <;> omega
  simp only [wf_4, wf_40, wf_5, wf_50, wf_6, wl_1, wt_1, wu_1, wa_1, wl_4, wt_4, wu_4, wa_4, wl_5, wt_5, wu_5, wa_5, wl_6, wt_6, wu_6, wa_6, wl_9, wt_9, wu_9, wa_9, wl_10, wt_10, wu_10, wa_10, wl_11, wt_11, wu_11, wa_11, wl_13, wt_13, wu_13, wa_13, wl_14, wt_14, wu_14, wa_14, wl_15, wt_15, wu_15, wa_15, wl_16, wt_16, wu_16, wa_16, wl_17, wt_17, wu_17, wa_17, wl_20, wt_20, wu_20, wa_20, wl_21, wt_21, wu_21, wa_21, wl_22, wt_22, wu_22, wa_22, wl_23, wt_23, wu_23, wa_23, wl_24, wt_24, wu_24, wa_24, wl_26, wt_26, wu_26, wa_26, wl_27, wt_27, wu_27, wa_27, wl_28, wt_28, wu_28, wa_28, we_1, we_3, we_10, we_14, we_15, we_16, we_17, we_18, we_20, we_21, we_22, we_24, we_25, we_26, we_27, we_28, we_30, we_31, we_32, wc_20, wc_21, wc_22, wc_24, wc_25, wc_26, wc_27, wc_3, wc_4, wc_7, wc_28, wc_32, ws_1, ws_2, ws_3, ws_4, ws_9, ws_10, ws_11, ws_14, ws_15, ws_16, ws_27, ws_17, ws_20, ws_28, kc_0, kc_1, kn_1, kc_2, kn_2, kc_3, kc_4, kc_5, kc_6, kc_7, kc_8, kc_9, kc_10, kc_12, kc_13, kc_14, kc_16, kc_17, kc_18, kc_19, kc_20, kc_21, kc_22, kc_24, kc_28, kc_30, kc_32, kc_37, kc_40, kc_41, kc_42, kc_43, kc_45, kc_48, kc_56, kc_57, kc_59, kc_60, kc_61, kc_64, kc_73, kc_78, kc_91, kc_95, kc_96, kc_97, kc_98, kc_99, kc_100, kc_112, kc_122, kc_125, kc_126, kc_150, kc_162, kc_163, kc_168, kc_186, kc_190, kc_200, kc_250, kc_255, kc_355, kc_356, kc_404, kc_405, kc_429, kc_573, kc_999, kc_1000, kc_1002, kc_1100, kc_1891, kc_2200, kc_4719, kc_4869, kc_4881, kc_5148, kc_9999, kn_9999, kc_10000, kc_12345, kc_19741, kc_25433, kc_65536, kc_320403, kc_628412, kc_629093, kc_660401, kc_679843, kc_918640, kc_979410, kc_1178088, kc_6232410, kc_24644941, kc_36238189, kc_38270444, kc_392531318, kc_425693491, kc_1103515245, kc_1342154595, kc_2147483648, kc_42328242873, kc_891704255789, kc_1722105685577, kc_1858726030364, ct_0, ct_1, ct_2, ct_3, ct_4, ct_5, cf_0, cf_1, cf_2, cf_3, cf_4, cf_5, w_ty6, w_ty7, m_sv, m_z0, m_hd, m_g0, m_gs, m_s0, m_ss, m_ap, m_an, forall_const, true_and, and_true, ne_eq, not_true_eq_false, not_false_eq_true, false_implies, true_implies, implies_true, eq_self, reduceCtorEq, Nat.reduceDiv, Nat.reduceMod, Int.reduceToNat, or_true, true_or, or_false, false_or, or_self, m_it, m_if, m_c1, m_01, m_02, m_03, m_04, m_10, m_12, m_13, m_14, m_20, m_21, m_23, m_24, m_30, m_31, m_32, m_34, m_40, m_41, m_42, m_43]
  have ba_w : 0 ≤ h3 182 7 ∧ h3 182 7 < 1002 := ⟨b2, by omega⟩
  have stop_w : h3 182 8 ≠ 0 → B214 P [h3 182 8] h3 := fun _ => ⟨_, rfl, ht_fld p3_w.1 rfl, p3_w.1, p3_w.2.2, by omega, by omega⟩
  have fin_w : h3 182 8 = 0 → ∀ (m2_w : Nat) (w : Int) (h4 : XH), m2_w ≤ 30 → PK P N h4 → DW P m2_w h4 → h4 182 12 = h 182 12 → h3 182 7 ≤ h4 182 7 → ∃ r h5, F 194 [182, 59] ((a_g3, g), h4) = some (1, r, (a_g3, g), h5) ∧ (∃ m_1 : Nat, ∃ w_1 : Int, [182, (m2_w : Int), w] = [182, (m_1 : Int), w_1] ∧ m_1 ≤ 30 ∧ PK P N h5 ∧ DW P m_1 h5 ∧ h5 182 12 = h 182 12) ∧ (2 * ((N : Int) - h5 182 7).toNat + if h5 182 8 = 0 then 1 else 0) < 2 * ((N : Int) - h3 182 7).toNat + if h3 182 8 = 0 then 1 else 0 := by
    intro z3 m2_w w h4 hm_w p4_w d4_w e4_w at4_w
    obtain ⟨h5, y1, y2, y3, y4⟩ := c194 h4 59 p4_w ⟨by decide, by decide⟩
    refine ⟨[], h5, y1, ⟨m2_w, w, rfl, hm_w, p4_w.pa y2, d4_w.pa y2, (y2.1 182 12 (fun _ => by decide)).trans e4_w⟩, ?_⟩
    rw [if_pos z3]
    by_cases t : tkS h4 59
    · have e5_w := y3 t
      have e7_w : h5 182 7 = h4 182 7 + 1 := by
        rw [e5_w]
        exact up_eq
      have n5_w := y2.2.2.2.2.2
      split <;> omega
    · obtain ⟨k1_w, k2, -⟩ := y4 t
      rw [if_neg k2]
      omega
  have done : h3 182 8 = 0 → wS (a_g3, g) F K (sx 12 (sx 20 (sx 3 (sv 2) z0 z0) (sx 14 (sx 1 (sv 4) (sv 1) z0) (sx 3 (sv 1) z0 z0) (sv 2)) (sv 2)) (sx 20 (sx 7 (sx 5 (sx 3 z0 z0 z0) (sv 14) z0) (sx 14 (sx 1 (sv 1) (sv 1) z0) (sx 3 (sv 2) z0 z0) z0) (so 6 (sx 7 (sx 5 (sx 3 z0 z0 z0) (sv 14) z0) (sx 14 (sx 1 (sv 125) (sv 1) z0) (sx 3 (sv 2) z0 z0) z0) z0))) z0 z0) (sx 4 (sv 2) (sv 1) z0)) [182, (m : Int), 0] (j_up h3 191 0 (m : Int)) fun k vs en1 h1 => (k = 0 → B214 P [0] h1) ∧ (¬k = 0 → k = 1 ∧ B214 P vs h1) := fun z3 => cp_214 hK_w p3_w m30 (w3_w z3) (by omega) (by omega) (fun en h' q d e => ⟨fun _ => ⟨0, rfl, in_0, q, d, by omega, by omega⟩, fun z => absurd rfl z⟩)
  refine ⟨fun z3 => ⟨ba_w, fun hs => ?_, fun hs => ⟨fun z => by omega, fun _ => ⟨⟨by decide, by decide⟩, done z3⟩⟩⟩, fun z3 => ⟨fun _ => stop_w z3, fun z => by omega⟩⟩
  obtain ⟨v, x1_w, v0_w, -, ok, -⟩ := c201 h3 9 4 p3_w (by decide) (by decide) (by decide)
  refine ⟨[v], h3, x1_w, fun hv => ?_, fun hv => ⟨fun hm_w => ?_, fun hm_w => ?_⟩⟩
  · obtain ⟨h4, y1, a4, -⟩ := c191 h3 1 p3_w (by decide) (by decide)
    exact ⟨[], h4, y1, fin_w z3 m _ h4 m30 (p3_w.pa a4) (w3_w.pa a4) ((a4.1 182 12 (fun _ => by decide)).trans e3_w) a4.2.2.2.2.1⟩
  · obtain ⟨h4, y1, a4, -⟩ := c191 h3 5 p3_w (by decide) (by decide)
    exact ⟨[], h4, y1, fin_w z3 m _ h4 m30 (p3_w.pa a4) (w3_w.pa a4) ((a4.1 182 12 (fun _ => by decide)).trans e3_w) a4.2.2.2.2.1⟩
  · have hv : 0 ≤ v := hv
    obtain ⟨v4_w, tk⟩ := ok hv
    have a4 := PA.next p3_w hs
    have p4_w : PK P N (atp h3) := p3_w.pa a4
    rw [jat p3_w, jmul (x := 4) (y := (m : Int)) (by omega) (by omega), jadd (x := 125) (y := 4 * (m : Int)) (by omega) (by omega), j32_in (v := (m : Int) + 1) ⟨by omega, by omega⟩, show 125 + 4 * (m : Int) = ((125 + 4 * m : Nat) : Int) by omega, show (m : Int) + 1 = ((m + 1 : Nat) : Int) by omega]
    obtain ⟨h5, y1, p5_w, l5, ln⟩ := c215 (atp h3) (125 + 4 * m) v p4_w (by omega) (by omega) hv (by omega)
    have z4 : atp h3 182 8 = 0 := atp_8.trans z3
    have at4_w : atp h3 182 7 = h3 182 7 + 1 := up_eq
    have at5_w := l5.2.2.2.2.1
    refine ⟨[], h5, y1, fin_w z3 (m + 1) _ h5 (by omega) p5_w (fun z i hi_w => ?_) ?_ (by omega)⟩
    · by_cases e : i = m
      · subst e
        have k := ln z
        rw [show 125 + 4 * i + 1 = 126 + 4 * i by omega, show 125 + 4 * i + 2 = 127 + 4 * i by omega, show 125 + 4 * i + 3 = 128 + 4 * i by omega] at k
        exact k
      · have c : ∀ j, j < 125 + 4 * m → h5 191 j = h3 191 j := fun j hj => (l5.1 191 j (fun z => absurd z (by decide)) (fun _ => Or.inl hj)).trans (up_ne (fun z => absurd z.1 (by decide)))
        rw [c _ (by omega), c _ (by omega), c _ (by omega), c _ (by omega)]
        exact w3_w z3 i (by omega)
    · rw [l5.1 182 12 (fun _ => by decide) (fun z => absurd z (by decide))]
      exact (up_ne (fun z => absurd z.2 (by decide))).trans e3_w
end PARH
