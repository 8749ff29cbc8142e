/-! ===== the reference's methods by hand_w: the grid's rows, the state's blocks_w ===== -/
section HA1
variable {P : Int × Int} {g : Nat × Nat} {xs : Nat → Int} {L K n : Nat} {ck : Nat → List Nat} {cW : Nat → Nat → Int} {h : XH} {J : XH → Prop}
theorem q_nM (hQ : QK P (r_T 0) J h) : h 188 3 = P.1 ∧ 0 ≤ P.1 ∧ P.1 ≤ 6 := by
  have k : IV P (7, 0, 0) (h 188 3) := q_cell hQ (q := 188) (r := 3) (x := (3, 4, (7, 0, 0))) (by decide) rfl rfl (by decide) (by decide)
  obtain ⟨k1_w, k2, k3⟩ := k
  omega
theorem q_nC (hQ : QK P (r_T 0) J h) : h 188 1 = P.2 ∧ 0 ≤ P.2 ∧ P.2 ≤ 4 := by
  have k : IV P (8, 0, 0) (h 188 1) := q_cell hQ (q := 188) (r := 1) (x := (1, 2, (8, 0, 0))) (by decide) rfl rfl (by decide) (by decide)
  obtain ⟨k1_w, k2, k3⟩ := k
  omega
theorem rkd_int : [183, 184, 185, 188, 189, 191, 192, 193, 194, 196, 197, 198, 199, 201].all (fun q => r_kd q == 1) = true := by decide +kernel
theorem ht_int {q : Nat} (hH : HT g_fk a_g3 h) (hq : q ∈ [183, 184, 185, 188, 189, 191, 192, 193, 194, 196, 197, 198, 199, 201]) (i : Nat) : InI (h q i) := by
  have h1 := List.all_eq_true.mp rkd_int q hq
  rw [beq_iff_eq] at h1
  have h2 : 183 ≤ q ∧ q ≤ 202 := by
    simp only [List.mem_cons, List.not_mem_nil, or_false] at hq
    omega
  have h3 := ((r_tab 0).2.2.1 q h2.1 h2.2).2.2.2 i
  exact (hH q i).1 (h3.trans h1)
theorem ht_up {q i : Nat} {v : Int} (hH : HT g_fk a_g3 h) (hq : q ∈ [183, 184, 185, 188, 189, 191, 192, 193, 194, 196, 197, 198, 199, 201]) (hv : InI v) : HT g_fk a_g3 (j_up h q i v) := by
  have h1 := List.all_eq_true.mp rkd_int q hq
  rw [beq_iff_eq] at h1
  have h2 : 183 ≤ q ∧ q ≤ 202 := by
    simp only [List.mem_cons, List.not_mem_nil, or_false] at hq
    omega
  have h3 := (((r_tab 0).2.2.1 q h2.1 h2.2).2.2.2 i).trans h1
  exact hH.up (fun _ => hv) (fun e => absurd (h3.symm.trans e) (by decide)) (fun e => absurd (h3.symm.trans e) (by decide))
theorem st_ok : ar_ok (r_A 194) = true := by decide +kernel
/-- a cell_w of a block_w of the state_w is_w written_w -/
theorem st_QK (hQ : QK P (r_T 0) J h) (hJ : JS (r_T 0) J) {j i : Nat} {v : Int} (hj : j < 12) (hi_w : i < 429) (hv : ∀ r ∈ (r_A 194).2.2, r.1 ≤ i → i < r.2.1 → IV P r.2.2 v) (hin : InI v) : QK P (r_T 0) J (j_up h 194 (429 * j + i) v) ∧ KR (r_T 0) h (j_up h 194 (429 * j + i) v) := by
  have hk : KR (r_T 0) h (j_up h 194 (429 * j + i) v) := KR.up rfl
  refine ⟨⟨ht_up hQ.1 (by decide) hin, fun k => ?_, fun q hq => ?_, hJ _ _ hk hQ.2.2.2⟩, hk⟩
  · rw [up_ne (fun z => absurd z.1 (by decide))]
    exact hQ.2.1 k
  · by_cases hq2 : q = 194
    · subst hq2
      intro r hr i' j' k1_w k2 hj'
      have hr2 := List.all_eq_true.mp st_ok r hr
      rw [Nat.ble_eq] at hr2
      have hr3 : r.2.1 ≤ 429 := hr2
      show IV P r.2.2 (j_up h 194 (429 * j + i) v 194 (429 * j' + i'))
      by_cases e : 429 * j' + i' = 429 * j + i
      · have e1_w : i' = i := by omega
        subst e1_w
        rw [e, up_eq]
        exact hv r hr k1_w k2
      · rw [up_ne (fun z => e z.2)]
        exact hQ.2.2.1 194 hq r hr i' j' k1_w k2 hj'
    · have e2_w : j_up h 194 (429 * j + i) v q = h q := funext fun i => up_ne (fun z => hq2 z.1)
      rw [e2_w]
      exact hQ.2.2.1 q hq
theorem iv_base {b : Int} (hb_w : IV P (3, 0, 0) b) : ∃ j : Nat, j < 12 ∧ b = 429 * (j : Int) := by
  obtain ⟨-, j, h1, h2, h3⟩ := hb_w
  exact ⟨j, h1, by omega⟩
theorem t_230 : TotR P (r_T 0) (RJ P) g (evF xs L ck K cW g_M (n + 1)) 230 := by
  refine tot_hand gm_230 rp_230 rr_230 ru_230 fun av h hQ hv => ?_
  obtain ⟨x, m, rfl, hx, hm_w⟩ := il2 hv
  obtain rfl : x = 182 := hx
  obtain ⟨m0_w, m1_w, m2_w⟩ := hm_w
  show wS _ _ K bb_230 [182, m] h _
  generalize evF xs L ck K cW g_M n = F
  unfold bb_230
  simp only [wf_4, wf_40, wf_5, wf_50, wf_6, wl_1, wt_1, wu_1, wa_1, wl_4, wt_4, wu_4, wa_4, wl_5, wt_5, wu_5, wa_5, wl_6, wt_6, wu_6, wa_6, wl_9, wt_9, wu_9, wa_9, wl_10, wt_10, wu_10, wa_10, wl_11, wt_11, wu_11, wa_11, wl_13, wt_13, wu_13, wa_13, wl_14, wt_14, wu_14, wa_14, wl_15, wt_15, wu_15, wa_15, wl_16, wt_16, wu_16, wa_16, wl_17, wt_17, wu_17, wa_17, wl_20, wt_20, wu_20, wa_20, wl_21, wt_21, wu_21, wa_21, wl_22, wt_22, wu_22, wa_22, wl_23, wt_23, wu_23, wa_23, wl_24, wt_24, wu_24, wa_24, wl_26, wt_26, wu_26, wa_26, wl_27, wt_27, wu_27, wa_27, wl_28, wt_28, wu_28, wa_28, we_1, we_3, we_10, we_14, we_15, we_16, we_17, we_18, we_20, we_21, we_22, we_24, we_25, we_26, we_27, we_28, we_30, we_31, we_32, wc_20, wc_21, wc_22, wc_24, wc_25, wc_26, wc_27, wc_3, wc_4, wc_7, wc_28, wc_32, ws_1, ws_2, ws_3, ws_4, ws_9, ws_10, ws_11, ws_14, ws_15, ws_16, ws_27, ws_17, ws_20, ws_28, kc_0, kc_1, kn_1, kc_2, kn_2, kc_3, kc_4, kc_5, kc_6, kc_7, kc_8, kc_9, kc_10, kc_12, kc_13, kc_14, kc_16, kc_17, kc_18, kc_19, kc_20, kc_21, kc_22, kc_24, kc_28, kc_30, kc_32, kc_37, kc_40, kc_41, kc_42, kc_43, kc_45, kc_48, kc_56, kc_57, kc_59, kc_60, kc_61, kc_64, kc_73, kc_78, kc_91, kc_95, kc_96, kc_97, kc_98, kc_99, kc_100, kc_112, kc_122, kc_125, kc_126, kc_150, kc_162, kc_163, kc_168, kc_186, kc_190, kc_200, kc_250, kc_255, kc_355, kc_356, kc_404, kc_405, kc_429, kc_573, kc_999, kc_1000, kc_1002, kc_1100, kc_1891, kc_2200, kc_4719, kc_4869, kc_4881, kc_5148, kc_9999, kn_9999, kc_10000, kc_12345, kc_19741, kc_25433, kc_65536, kc_320403, kc_628412, kc_629093, kc_660401, kc_679843, kc_918640, kc_979410, kc_1178088, kc_6232410, kc_24644941, kc_36238189, kc_38270444, kc_392531318, kc_425693491, kc_1103515245, kc_1342154595, kc_2147483648, kc_42328242873, kc_891704255789, kc_1722105685577, kc_1858726030364, ct_0, ct_1, ct_2, ct_3, ct_4, ct_5, cf_0, cf_1, cf_2, cf_3, cf_4, cf_5, w_ty6, w_ty7, m_sv, m_z0, m_hd, m_g0, m_gs, m_s0, m_ss, m_ap, m_an, forall_const, true_and, and_true, ne_eq, not_true_eq_false, not_false_eq_true, false_implies, true_implies, implies_true, eq_self, reduceCtorEq, Nat.reduceDiv, Nat.reduceMod, Int.reduceToNat, or_true, true_or, or_false, false_or, or_self, m_it, m_if, m_c1, m_01, m_02, m_03, m_04, m_10, m_12, m_13, m_14, m_20, m_21, m_23, m_24, m_30, m_31, m_32, m_34, m_40, m_41, m_42, m_43]
  simp (disch := omega) only [jmul, jadd]
  have k := hQ.2.2.2.1.1 m.toNat (by omega)
  have k4 := q_nC hQ
  have e : (73 + 3 * m + 1).toNat = 0 + (74 + 3 * m.toNat) := by omega
  rw [e]
  exact ⟨⟨by omega, by omega⟩, hQ, KR.rf, ⟨⟨k.1, k.2, k4.2.2⟩, trivial⟩⟩
theorem gr_prof {c s : Int} (hQ : QK P (r_T 0) J h) (c0 : 0 ≤ c) (c1_w : c < 4) (s0 : 0 ≤ s) (s1_w : s < 12) : IV P (1, 0, 99) (h 188 (19 + 14 * c + s).toNat) := by
  have hc_w : c = 0 ∨ c = 1 ∨ c = 2 ∨ c = 3 := by omega
  rcases hc_w with rfl | rfl | rfl | rfl
  · exact q_cell hQ (q := 188) (r := 9) (x := (19, 31, (1, 0, 99))) (by decide) rfl rfl (by dsimp only; omega) (by dsimp only; omega)
  · exact q_cell hQ (q := 188) (r := 12) (x := (33, 45, (1, 0, 99))) (by decide) rfl rfl (by dsimp only; omega) (by dsimp only; omega)
  · exact q_cell hQ (q := 188) (r := 15) (x := (47, 59, (1, 0, 99))) (by decide) rfl rfl (by dsimp only; omega) (by dsimp only; omega)
  · exact q_cell hQ (q := 188) (r := 18) (x := (61, 73, (1, 0, 99))) (by decide) rfl rfl (by dsimp only; omega) (by dsimp only; omega)
theorem m_232 (hQ : QK P (r_T 0) (RJ P) h) {c s : Int} (hc_w : IV P (6, 0, 0) c) (s0 : 0 ≤ s) (s1_w : s ≤ 12) : ∃ r h', evF xs L ck K cW g_M (n + 1) 232 [182, c, s] ((a_g3, g), h) = some (1, r, ((a_g3, g), h')) ∧ h' = h ∧ ∃ v, r = [v] ∧ IV P (1, 0, 99) v := by
  refine tr_of gm_232 (B := fun r h' => h' = h ∧ ∃ v, r = [v] ∧ IV P (1, 0, 99) v) ?_
  obtain ⟨c0, c1_w, c2⟩ := hc_w
  show wS _ _ K bb_232 [182, c, s, 0] h _
  generalize evF xs L ck K cW g_M n = F
  unfold bb_232
  simp only [wf_4, wf_40, wf_5, wf_50, wf_6, wl_1, wt_1, wu_1, wa_1, wl_4, wt_4, wu_4, wa_4, wl_5, wt_5, wu_5, wa_5, wl_6, wt_6, wu_6, wa_6, wl_9, wt_9, wu_9, wa_9, wl_10, wt_10, wu_10, wa_10, wl_11, wt_11, wu_11, wa_11, wl_13, wt_13, wu_13, wa_13, wl_14, wt_14, wu_14, wa_14, wl_15, wt_15, wu_15, wa_15, wl_16, wt_16, wu_16, wa_16, wl_17, wt_17, wu_17, wa_17, wl_20, wt_20, wu_20, wa_20, wl_21, wt_21, wu_21, wa_21, wl_22, wt_22, wu_22, wa_22, wl_23, wt_23, wu_23, wa_23, wl_24, wt_24, wu_24, wa_24, wl_26, wt_26, wu_26, wa_26, wl_27, wt_27, wu_27, wa_27, wl_28, wt_28, wu_28, wa_28, we_1, we_3, we_10, we_14, we_15, we_16, we_17, we_18, we_20, we_21, we_22, we_24, we_25, we_26, we_27, we_28, we_30, we_31, we_32, wc_20, wc_21, wc_22, wc_24, wc_25, wc_26, wc_27, wc_3, wc_4, wc_7, wc_28, wc_32, ws_1, ws_2, ws_3, ws_4, ws_9, ws_10, ws_11, ws_14, ws_15, ws_16, ws_27, ws_17, ws_20, ws_28, kc_0, kc_1, kn_1, kc_2, kn_2, kc_3, kc_4, kc_5, kc_6, kc_7, kc_8, kc_9, kc_10, kc_12, kc_13, kc_14, kc_16, kc_17, kc_18, kc_19, kc_20, kc_21, kc_22, kc_24, kc_28, kc_30, kc_32, kc_37, kc_40, kc_41, kc_42, kc_43, kc_45, kc_48, kc_56, kc_57, kc_59, kc_60, kc_61, kc_64, kc_73, kc_78, kc_91, kc_95, kc_96, kc_97, kc_98, kc_99, kc_100, kc_112, kc_122, kc_125, kc_126, kc_150, kc_162, kc_163, kc_168, kc_186, kc_190, kc_200, kc_250, kc_255, kc_355, kc_356, kc_404, kc_405, kc_429, kc_573, kc_999, kc_1000, kc_1002, kc_1100, kc_1891, kc_2200, kc_4719, kc_4869, kc_4881, kc_5148, kc_9999, kn_9999, kc_10000, kc_12345, kc_19741, kc_25433, kc_65536, kc_320403, kc_628412, kc_629093, kc_660401, kc_679843, kc_918640, kc_979410, kc_1178088, kc_6232410, kc_24644941, kc_36238189, kc_38270444, kc_392531318, kc_425693491, kc_1103515245, kc_1342154595, kc_2147483648, kc_42328242873, kc_891704255789, kc_1722105685577, kc_1858726030364, ct_0, ct_1, ct_2, ct_3, ct_4, ct_5, cf_0, cf_1, cf_2, cf_3, cf_4, cf_5, w_ty6, w_ty7, m_sv, m_z0, m_hd, m_g0, m_gs, m_s0, m_ss, m_ap, m_an, forall_const, true_and, and_true, ne_eq, not_true_eq_false, not_false_eq_true, false_implies, true_implies, implies_true, eq_self, reduceCtorEq, Nat.reduceDiv, Nat.reduceMod, Int.reduceToNat, or_true, true_or, or_false, false_or, or_self, m_it, m_if, m_c1, m_01, m_02, m_03, m_04, m_10, m_12, m_13, m_14, m_20, m_21, m_23, m_24, m_30, m_31, m_32, m_34, m_40, m_41, m_42, m_43]
  have k := hQ.2.2.2.1.2 c.toNat (by omega)
  have e : j_iop 0 (j_iop 0 17 (j_iop 2 14 c)) 1 = 18 + 14 * c := by
    simp (disch := omega) only [jmul, jadd]
    omega
  have e1_w : (18 + 14 * c).toNat = 0 + (18 + 14 * c.toNat) := by omega
  rw [e, e1_w]
  generalize h 188 (0 + (18 + 14 * c.toNat)) = w at k ⊢
  obtain ⟨k1_w, k2, k3, k4⟩ := emod_bd s0 (show 0 < w by omega)
  have e2_w : j_iop 0 (j_iop 0 (j_iop 0 17 (j_iop 2 14 c)) 2) (j_div 1 s w) = 19 + 14 * c + s % w := by
    show j_iop 0 _ (s.tmod w) = _
    rw [k1_w]
    simp (disch := omega) only [jmul, jadd]
    omega
  rw [e2_w]
  exact ⟨⟨by omega, by omega⟩, by omega, ⟨by omega, by omega⟩, _, rfl, gr_prof hQ c0 (by omega) k2 (by omega)⟩
theorem t_232 : TotR P (r_T 0) (RJ P) g (evF xs L ck K cW g_M (n + 1)) 232 := by
  intro av h hQ hv
  rw [rp_232] at hv
  obtain ⟨x, c, s, rfl, hx, hc_w, hs⟩ := il3 hv
  obtain rfl : x = 182 := hx
  obtain ⟨r, h', e1_w, rfl, v, rfl, e2_w⟩ := m_232 (xs := xs) (L := L) (ck := ck) (cW := cW) (n := n) (K := K) (g := g) hQ hc_w hs.1 hs.2.1
  exact ⟨[v], h', e1_w, hQ, KR.rf, by rw [rr_232]; exact ⟨e2_w, trivial⟩, fun _ => by rw [ru_232]; exact hv⟩
theorem il_this : IL P [(4, 182, 182)] [182] := ⟨rfl, trivial⟩
/-- what a method_w that answers_w one number_w does; one that answers_w none -/
theorem use1 {F : XP} {f : Nat} {av : List Int} {ps_w : List IT} {t : IT} (c : TotR P (r_T 0) J g F f) (hP : qP (r_T 0) f = ps_w) (hR : qR (r_T 0) f = [t]) (hQ : QK P (r_T 0) J h) (hv : IL P ps_w av) : ∃ v h2, F f av ((a_g3, g), h) = some (1, [v], ((a_g3, g), h2)) ∧ QK P (r_T 0) J h2 ∧ KR (r_T 0) h h2 ∧ IV P t v := by
  obtain ⟨r, h2, e1_w, e2_w, e3_w, e4_w, -⟩ := c av h hQ (by rw [hP]; exact hv)
  rw [hR] at e4_w
  obtain ⟨v, rfl, e5_w⟩ := IL.one e4_w
  exact ⟨v, h2, e1_w, e2_w, e3_w, e5_w⟩
theorem use0 {F : XP} {f : Nat} {av : List Int} {ps_w : List IT} (c : TotR P (r_T 0) J g F f) (hP : qP (r_T 0) f = ps_w) (hR : qR (r_T 0) f = []) (hQ : QK P (r_T 0) J h) (hv : IL P ps_w av) : ∃ h2, F f av ((a_g3, g), h) = some (1, [], ((a_g3, g), h2)) ∧ QK P (r_T 0) J h2 ∧ KR (r_T 0) h h2 := by
  obtain ⟨r, h2, e1_w, e2_w, e3_w, e4_w, -⟩ := c av h hQ (by rw [hP]; exact hv)
  rw [hR] at e4_w
  have e5_w : r = [] := List.length_eq_zero_iff.mp (IL.len e4_w)
  subst e5_w
  exact ⟨h2, e1_w, e2_w, e3_w⟩
/-- all_w but one object's cells_w stay_w -/
def But (q : Nat) (h h' : XH) : Prop := ∀ o k, o ≠ q → h' o k = h o k
theorem But.rf {q : Nat} : But q h h := fun _ _ _ => rfl
theorem But.tr {q : Nat} {h1 h2 : XH} (a : But q h h1) (b : But q h1 h2) : But q h h2 := fun o k e => (b o k e).trans (a o k e)
theorem But.up {q i : Nat} {v : Int} : But q h (j_up h q i v) := fun o k e => up_ne (fun z => e z.1)
theorem m_224 (hJ : JS (r_T 0) J) (hK_w : 4294967300 ≤ K) (hQ : QK P (r_T 0) J h) {i j : Nat} {m : Int} (hi_w : i < 12) (hj : j < 12) (m0_w : 0 ≤ m) (m1_w : m ≤ 429) : ∃ r h', evF xs L ck K cW g_M (n + 1) 224 [182, 429 * (i : Int), 429 * (j : Int), m] ((a_g3, g), h) = some (1, r, ((a_g3, g), h')) ∧ QK P (r_T 0) J h' ∧ KR (r_T 0) h h' ∧ But 194 h h' ∧ (∀ p, (p < 429 * j ∨ 429 * j + 429 ≤ p) → h' 194 p = h 194 p) ∧ r = [] := by
  refine tr_of gm_224 (B := fun r h' => QK P (r_T 0) J h' ∧ KR (r_T 0) h h' ∧ But 194 h h' ∧ (∀ p, (p < 429 * j ∨ 429 * j + 429 ≤ p) → h' 194 p = h 194 p) ∧ r = []) ?_
  show wS _ _ K bb_224 [182, 429 * (i : Int), 429 * (j : Int), m, 0] h _
  generalize evF xs L ck K cW g_M n = F
  unfold bb_224
  simp only [wf_4, wf_40, wf_5, wf_50, wf_6, wl_1, wt_1, wu_1, wa_1, wl_4, wt_4, wu_4, wa_4, wl_5, wt_5, wu_5, wa_5, wl_6, wt_6, wu_6, wa_6, wl_9, wt_9, wu_9, wa_9, wl_10, wt_10, wu_10, wa_10, wl_11, wt_11, wu_11, wa_11, wl_13, wt_13, wu_13, wa_13, wl_14, wt_14, wu_14, wa_14, wl_15, wt_15, wu_15, wa_15, wl_16, wt_16, wu_16, wa_16, wl_17, wt_17, wu_17, wa_17, wl_20, wt_20, wu_20, wa_20, wl_21, wt_21, wu_21, wa_21, wl_22, wt_22, wu_22, wa_22, wl_23, wt_23, wu_23, wa_23, wl_24, wt_24, wu_24, wa_24, wl_26, wt_26, wu_26, wa_26, wl_27, wt_27, wu_27, wa_27, wl_28, wt_28, wu_28, wa_28, we_1, we_3, we_10, we_14, we_15, we_16, we_17, we_18, we_20, we_21, we_22, we_24, we_25, we_26, we_27, we_28, we_30, we_31, we_32, wc_20, wc_21, wc_22, wc_24, wc_25, wc_26, wc_27, wc_3, wc_4, wc_7, wc_28, wc_32, ws_1, ws_2, ws_3, ws_4, ws_9, ws_10, ws_11, ws_14, ws_15, ws_16, ws_27, ws_17, ws_20, ws_28, kc_0, kc_1, kn_1, kc_2, kn_2, kc_3, kc_4, kc_5, kc_6, kc_7, kc_8, kc_9, kc_10, kc_12, kc_13, kc_14, kc_16, kc_17, kc_18, kc_19, kc_20, kc_21, kc_22, kc_24, kc_28, kc_30, kc_32, kc_37, kc_40, kc_41, kc_42, kc_43, kc_45, kc_48, kc_56, kc_57, kc_59, kc_60, kc_61, kc_64, kc_73, kc_78, kc_91, kc_95, kc_96, kc_97, kc_98, kc_99, kc_100, kc_112, kc_122, kc_125, kc_126, kc_150, kc_162, kc_163, kc_168, kc_186, kc_190, kc_200, kc_250, kc_255, kc_355, kc_356, kc_404, kc_405, kc_429, kc_573, kc_999, kc_1000, kc_1002, kc_1100, kc_1891, kc_2200, kc_4719, kc_4869, kc_4881, kc_5148, kc_9999, kn_9999, kc_10000, kc_12345, kc_19741, kc_25433, kc_65536, kc_320403, kc_628412, kc_629093, kc_660401, kc_679843, kc_918640, kc_979410, kc_1178088, kc_6232410, kc_24644941, kc_36238189, kc_38270444, kc_392531318, kc_425693491, kc_1103515245, kc_1342154595, kc_2147483648, kc_42328242873, kc_891704255789, kc_1722105685577, kc_1858726030364, ct_0, ct_1, ct_2, ct_3, ct_4, ct_5, cf_0, cf_1, cf_2, cf_3, cf_4, cf_5, w_ty6, w_ty7, m_sv, m_z0, m_hd, m_g0, m_gs, m_s0, m_ss, m_ap, m_an, forall_const, true_and, and_true, ne_eq, not_true_eq_false, not_false_eq_true, false_implies, true_implies, implies_true, eq_self, reduceCtorEq, Nat.reduceDiv, Nat.reduceMod, Int.reduceToNat, or_true, true_or, or_false, false_or, or_self, m_it, m_if, m_c1, m_01, m_02, m_03, m_04, m_10, m_12, m_13, m_14, m_20, m_21, m_23, m_24, m_30, m_31, m_32, m_34, m_40, m_41, m_42, m_43]
  refine w_lp (fun en h' => ∃ k : Int, en = [182, 429 * (i : Int), 429 * (j : Int), m, k] ∧ 0 ≤ k ∧ k ≤ m ∧ QK P (r_T 0) J h' ∧ KR (r_T 0) h h' ∧ But 194 h h' ∧ (∀ p, (p < 429 * j ∨ 429 * j + 429 ≤ p) → h' 194 p = h 194 p)) (fun en _ => (m - en.getD 4 0).toNat) ⟨0, rfl, by omega, m0_w, hQ, KR.rf, But.rf, fun _ _ => rfl⟩ ?_
  rintro en h1 ⟨k, rfl, k0_w, k1_w, q1_w, q2_w, q5_w, q6_w⟩
  refine ⟨?_, ?_⟩
  · show (m - k).toNat < K
    omega
  simp only [wf_4, wf_40, wf_5, wf_50, wf_6, wl_1, wt_1, wu_1, wa_1, wl_4, wt_4, wu_4, wa_4, wl_5, wt_5, wu_5, wa_5, wl_6, wt_6, wu_6, wa_6, wl_9, wt_9, wu_9, wa_9, wl_10, wt_10, wu_10, wa_10, wl_11, wt_11, wu_11, wa_11, wl_13, wt_13, wu_13, wa_13, wl_14, wt_14, wu_14, wa_14, wl_15, wt_15, wu_15, wa_15, wl_16, wt_16, wu_16, wa_16, wl_17, wt_17, wu_17, wa_17, wl_20, wt_20, wu_20, wa_20, wl_21, wt_21, wu_21, wa_21, wl_22, wt_22, wu_22, wa_22, wl_23, wt_23, wu_23, wa_23, wl_24, wt_24, wu_24, wa_24, wl_26, wt_26, wu_26, wa_26, wl_27, wt_27, wu_27, wa_27, wl_28, wt_28, wu_28, wa_28, we_1, we_3, we_10, we_14, we_15, we_16, we_17, we_18, we_20, we_21, we_22, we_24, we_25, we_26, we_27, we_28, we_30, we_31, we_32, wc_20, wc_21, wc_22, wc_24, wc_25, wc_26, wc_27, wc_3, wc_4, wc_7, wc_28, wc_32, ws_1, ws_2, ws_3, ws_4, ws_9, ws_10, ws_11, ws_14, ws_15, ws_16, ws_27, ws_17, ws_20, ws_28, kc_0, kc_1, kn_1, kc_2, kn_2, kc_3, kc_4, kc_5, kc_6, kc_7, kc_8, kc_9, kc_10, kc_12, kc_13, kc_14, kc_16, kc_17, kc_18, kc_19, kc_20, kc_21, kc_22, kc_24, kc_28, kc_30, kc_32, kc_37, kc_40, kc_41, kc_42, kc_43, kc_45, kc_48, kc_56, kc_57, kc_59, kc_60, kc_61, kc_64, kc_73, kc_78, kc_91, kc_95, kc_96, kc_97, kc_98, kc_99, kc_100, kc_112, kc_122, kc_125, kc_126, kc_150, kc_162, kc_163, kc_168, kc_186, kc_190, kc_200, kc_250, kc_255, kc_355, kc_356, kc_404, kc_405, kc_429, kc_573, kc_999, kc_1000, kc_1002, kc_1100, kc_1891, kc_2200, kc_4719, kc_4869, kc_4881, kc_5148, kc_9999, kn_9999, kc_10000, kc_12345, kc_19741, kc_25433, kc_65536, kc_320403, kc_628412, kc_629093, kc_660401, kc_679843, kc_918640, kc_979410, kc_1178088, kc_6232410, kc_24644941, kc_36238189, kc_38270444, kc_392531318, kc_425693491, kc_1103515245, kc_1342154595, kc_2147483648, kc_42328242873, kc_891704255789, kc_1722105685577, kc_1858726030364, ct_0, ct_1, ct_2, ct_3, ct_4, ct_5, cf_0, cf_1, cf_2, cf_3, cf_4, cf_5, w_ty6, w_ty7, m_sv, m_z0, m_hd, m_g0, m_gs, m_s0, m_ss, m_ap, m_an, forall_const, true_and, and_true, ne_eq, not_true_eq_false, not_false_eq_true, false_implies, true_implies, implies_true, eq_self, reduceCtorEq, Nat.reduceDiv, Nat.reduceMod, Int.reduceToNat, or_true, true_or, or_false, false_or, or_self, m_it, m_if, m_c1, m_01, m_02, m_03, m_04, m_10, m_12, m_13, m_14, m_20, m_21, m_23, m_24, m_30, m_31, m_32, m_34, m_40, m_41, m_42, m_43]
  refine ⟨fun hk => ?_, fun hk => ⟨q1_w, q2_w, q5_w, q6_w⟩⟩
  simp (disch := omega) only [jadd, jinc]
  have e1_w : (429 * (j : Int) + k).toNat = 429 * j + k.toNat := by omega
  have e2_w : (429 * (i : Int) + k).toNat = 429 * i + k.toNat := by omega
  rw [e1_w, e2_w]
  obtain ⟨q3_w, q4_w⟩ := st_QK q1_w hJ (j := j) (i := k.toNat) (v := h1 194 (429 * i + k.toNat)) hj (by omega) (fun r hr r1_w r2 => q1_w.2.2.1 194 (by decide) r hr k.toNat i r1_w r2 hi_w) (ht_int q1_w.1 (by decide) _)
  refine ⟨⟨by omega, by omega⟩, ⟨by omega, by omega⟩, ⟨k + 1, rfl, by omega, by omega, q3_w, q2_w.tr q4_w, q5_w.tr But.up, fun p hp => (up_ne (fun z => by have := z.2; omega)).trans (q6_w p hp)⟩, ?_⟩
  show (m - (k + 1)).toNat < (m - k).toNat
  omega
theorem t_224 (hJ : JS (r_T 0) J) (hK_w : 4294967300 ≤ K) : TotR P (r_T 0) J g (evF xs L ck K cW g_M (n + 1)) 224 := by
  intro av h hQ hv
  rw [rp_224] at hv
  obtain ⟨x, a, b, m, rfl, hx, ha_w, hb_w, hm_w⟩ := il4 hv
  obtain rfl : x = 182 := hx
  obtain ⟨i, hi_w, rfl⟩ := iv_base ha_w
  obtain ⟨j, hj, rfl⟩ := iv_base hb_w
  obtain ⟨m0_w, m1_w, -⟩ := hm_w
  obtain ⟨r, h', e1_w, e2_w, e3_w, -, -, rfl⟩ := m_224 (xs := xs) (L := L) (ck := ck) (cW := cW) (n := n) (g := g) hJ hK_w hQ hi_w hj m0_w m1_w
  exact ⟨[], h', e1_w, e2_w, e3_w, by rw [rr_224]; trivial, fun k => absurd rfl k⟩
end HA1
