/-! ===== the reference's methods by hand_w: accounts and runs ===== -/
/-- no more_w different numbers_w than there_w are -/
theorem pigeon : ∀ (N n : Nat) (f : Nat → Nat), (∀ i, i < n → f i < N) → (∀ i j, i < j → j < n → f i ≠ f j) → n ≤ N
  | 0, n, f, h1, _ => by
    rcases Nat.eq_zero_or_pos n with h | h
    · omega
    · exact absurd (h1 0 h) (by omega)
  | N + 1, n, f, h1, h2 => by
    by_cases h : ∃ i, i < n ∧ f i = N
    · obtain ⟨i, hi_w, he⟩ := h
      have h3 := pigeon N (n - 1) (fun k => if k < i then f k else f (k + 1)) (fun k hk => by
        split
        · rename_i hki
          have a := h1 k (by omega)
          have b := h2 k i hki hi_w
          omega
        · have a := h1 (k + 1) (by omega)
          have b := h2 i (k + 1) (by omega) (by omega)
          omega) (fun a b hab hb_w => by
        split
        · split
          · exact h2 a b hab (by omega)
          · exact h2 a (b + 1) (by omega) (by omega)
        · split
          · omega
          · exact h2 (a + 1) (b + 1) (by omega) (by omega))
      omega
    · have h3 := pigeon N n f (fun i hi_w => by
        have a := h1 i hi_w
        have b : f i ≠ N := fun e => h ⟨i, hi_w, e⟩
        omega) h2
      omega
/-- the accounts that lie in a block_w are of different suppliers or_w classes -/
def DA (j : Nat) (h : XH) : Prop := ∀ k k' : Nat, k < k' → (k' : Int) < h 194 (429 * j + 355) → ¬(h 194 (429 * j + (356 + 3 * k)) = h 194 (429 * j + (356 + 3 * k')) ∧ h 194 (429 * j + (357 + 3 * k)) = h 194 (429 * j + (357 + 3 * k')))
def S269 (P : Int × Int) (J : XH → Prop) (g : Nat × Nat) (F : XP) : Prop := ∀ (h : XH) (j : Nat) (s c v : Int), QK P (r_T 0) J h → j < 12 → DA j h → 0 ≤ s → s ≤ 3 → 0 ≤ c → c ≤ 3 → InI v → ∃ h', F 269 [182, 429 * (j : Int), s, c, v] ((a_g3, g), h) = some (1, [], ((a_g3, g), h')) ∧ QK P (r_T 0) J h' ∧ KR (r_T 0) h h' ∧ DA j h' ∧ (∀ p, (p < 429 * j + 355 ∨ 429 * j + 429 ≤ p) → h' 194 p = h 194 p)
section HA8
variable {P : Int × Int} {g : Nat × Nat} {xs : Nat → Int} {L K n : Nat} {ck : Nat → List Nat} {cW : Nat → Nat → Int} {h : XH} {J : XH → Prop}
theorem acc_n (hQ : QK P (r_T 0) J h) {j : Nat} (hj : j < 12) : 0 ≤ h 194 (429 * j + 355) ∧ h 194 (429 * j + 355) ≤ 16 := by
  have k : IV P (1, 0, 16) (h 194 (429 * j + 355)) := s_cell hQ (r := 5) (x := (355, 356, (1, 0, 16))) rfl (by decide) (by decide) hj
  exact ⟨k.1, k.2.1⟩
theorem acc_reg : (List.range 16).all (fun k => decide ((r_A 194).2.2[7 + 2 * k]? = some (356 + 3 * k, 358 + 3 * k, (1, 0, 3)))) = true := by decide +kernel
theorem acc_sc (hQ : QK P (r_T 0) J h) {j k : Nat} (hj : j < 12) (hk : k < 16) : (0 ≤ h 194 (429 * j + (356 + 3 * k)) ∧ h 194 (429 * j + (356 + 3 * k)) ≤ 3) ∧ 0 ≤ h 194 (429 * j + (357 + 3 * k)) ∧ h 194 (429 * j + (357 + 3 * k)) ≤ 3 := by
  have h1 := List.all_eq_true.mp acc_reg k (List.mem_range.mpr hk)
  rw [decide_eq_true_eq] at h1
  have a : IV P (1, 0, 3) (h 194 (429 * j + (356 + 3 * k))) := s_cell hQ h1 (by dsimp only; omega) (by dsimp only; omega) hj
  have b : IV P (1, 0, 3) (h 194 (429 * j + (357 + 3 * k))) := s_cell hQ h1 (by dsimp only; omega) (by dsimp only; omega) hj
  exact ⟨⟨a.1, a.2.1⟩, b.1, b.2.1⟩
theorem acc_full (hQ : QK P (r_T 0) J h) {j : Nat} (hj : j < 12) (hd_w : DA j h) {s c : Int} (s0 : 0 ≤ s) (s1_w : s ≤ 3) (c0 : 0 ≤ c) (c1_w : c ≤ 3) (hn : ∀ k : Nat, (k : Int) < h 194 (429 * j + 355) → ¬(h 194 (429 * j + (356 + 3 * k)) = s ∧ h 194 (429 * j + (357 + 3 * k)) = c)) : h 194 (429 * j + 355) ≤ 15 := by
  have hm_w := acc_n hQ hj
  generalize hN_w : h 194 (429 * j + 355) = N at hm_w hn
  unfold DA at hd_w
  rw [hN_w] at hd_w
  have key_w := pigeon 16 (N.toNat + 1) (fun k => if k < N.toNat then (4 * h 194 (429 * j + (356 + 3 * k)) + h 194 (429 * j + (357 + 3 * k))).toNat else (4 * s + c).toNat) (fun k hk => by
    split
    · rename_i hk2
      have a := acc_sc hQ hj (show k < 16 by omega)
      omega
    · omega) (fun a b hab hb_w => by
    have ha2 : a < N.toNat := by omega
    rw [if_pos ha2]
    have x := acc_sc hQ hj (show a < 16 by omega)
    split
    · rename_i hb2
      have y := acc_sc hQ hj (show b < 16 by omega)
      have z := hd_w a b hab (by omega)
      omega
    · have z := hn a (by omega)
      omega)
  omega
theorem acc_up {j k o : Nat} {t : IT} {v : Int} (hQ : QK P (r_T 0) J h) (hJ : JS (r_T 0) J) (hj : j < 12) (hk : k < 16) (ho : o < 2) (hv : 0 ≤ v ∧ v ≤ 3) : QK P (r_T 0) J (j_up h 194 (429 * j + (356 + o + 3 * k)) v) ∧ KR (r_T 0) h (j_up h 194 (429 * j + (356 + o + 3 * k)) v) := by
  have hall : (List.range 16).all (fun k => st_fit (356 + 3 * k) (358 + 3 * k) (1, 0, 3)) = true := by decide +kernel
  have h1 := List.all_eq_true.mp hall k (List.mem_range.mpr hk)
  exact st_QK hQ hJ hj (by omega) (st_fit_ok h1 (by omega) (by omega) ⟨hv.1, hv.2, by unfold InI; omega⟩) (by unfold InI; omega)
theorem acc_up2 {j k : Nat} {v : Int} (hQ : QK P (r_T 0) J h) (hJ : JS (r_T 0) J) (hj : j < 12) (hk : k < 16) (hv : InI v) : QK P (r_T 0) J (j_up h 194 (429 * j + (358 + 3 * k)) v) ∧ KR (r_T 0) h (j_up h 194 (429 * j + (358 + 3 * k)) v) := by
  have hall : (List.range 16).all (fun k => st_fit (358 + 3 * k) (359 + 3 * k) iT) = true := by decide +kernel
  have h1 := List.all_eq_true.mp hall k (List.mem_range.mpr hk)
  exact st_QK hQ hJ hj (by omega) (st_fit_ok h1 (by omega) (by omega) (IV.top hv)) hv
theorem s_269 (hJ : JS (r_T 0) J) (hK_w : 4294967300 ≤ K) : S269 P J g (evF xs L ck K cW g_M (n + 1)) := fun h j s c v hQ hj hd_w s0 s1_w c0 c1_w hv => by
  suffices hs : ∃ r h', evF xs L ck K cW g_M (n + 1) 269 [182, 429 * (j : Int), s, c, v] ((a_g3, g), h) = some (1, r, ((a_g3, g), h')) ∧ QK P (r_T 0) J h' ∧ KR (r_T 0) h h' ∧ DA j h' ∧ (∀ p, (p < 429 * j + 355 ∨ 429 * j + 429 ≤ p) → h' 194 p = h 194 p) ∧ r = [] by
    obtain ⟨r, h', e1_w, e2_w, e3_w, e4_w, e5_w, rfl⟩ := hs
    exact ⟨h', e1_w, e2_w, e3_w, e4_w, e5_w⟩
  refine tr_of gm_269 (B := fun r h' => QK P (r_T 0) J h' ∧ KR (r_T 0) h h' ∧ DA j h' ∧ (∀ p, (p < 429 * j + 355 ∨ 429 * j + 429 ≤ p) → h' 194 p = h 194 p) ∧ r = []) ?_
  show wS _ _ K bb_269 [182, 429 * (j : Int), s, c, v, 0, 0, 0, 0] h _
  generalize evF xs L ck K cW g_M n = F
  unfold bb_269
  simp only [wf_4, wf_40, wf_5, wf_50, wf_6, wl_1, wt_1, wu_1, wa_1, wl_4, wt_4, wu_4, wa_4, wl_5, wt_5, wu_5, wa_5, wl_6, wt_6, wu_6, wa_6, wl_9, wt_9, wu_9, wa_9, wl_10, wt_10, wu_10, wa_10, wl_11, wt_11, wu_11, wa_11, wl_13, wt_13, wu_13, wa_13, wl_14, wt_14, wu_14, wa_14, wl_15, wt_15, wu_15, wa_15, wl_16, wt_16, wu_16, wa_16, wl_17, wt_17, wu_17, wa_17, wl_20, wt_20, wu_20, wa_20, wl_21, wt_21, wu_21, wa_21, wl_22, wt_22, wu_22, wa_22, wl_23, wt_23, wu_23, wa_23, wl_24, wt_24, wu_24, wa_24, wl_26, wt_26, wu_26, wa_26, wl_27, wt_27, wu_27, wa_27, wl_28, wt_28, wu_28, wa_28, we_1, we_3, we_10, we_14, we_15, we_16, we_17, we_18, we_20, we_21, we_22, we_24, we_25, we_26, we_27, we_28, we_30, we_31, we_32, wc_20, wc_21, wc_22, wc_24, wc_25, wc_26, wc_27, wc_3, wc_4, wc_7, wc_28, wc_32, ws_1, ws_2, ws_3, ws_4, ws_9, ws_10, ws_11, ws_14, ws_15, ws_16, ws_27, ws_17, ws_20, ws_28, kc_0, kc_1, kn_1, kc_2, kn_2, kc_3, kc_4, kc_5, kc_6, kc_7, kc_8, kc_9, kc_10, kc_12, kc_13, kc_14, kc_16, kc_17, kc_18, kc_19, kc_20, kc_21, kc_22, kc_24, kc_28, kc_30, kc_32, kc_37, kc_40, kc_41, kc_42, kc_43, kc_45, kc_48, kc_56, kc_57, kc_59, kc_60, kc_61, kc_64, kc_73, kc_78, kc_91, kc_95, kc_96, kc_97, kc_98, kc_99, kc_100, kc_112, kc_122, kc_125, kc_126, kc_150, kc_162, kc_163, kc_168, kc_186, kc_190, kc_200, kc_250, kc_255, kc_355, kc_356, kc_404, kc_405, kc_429, kc_573, kc_999, kc_1000, kc_1002, kc_1100, kc_1891, kc_2200, kc_4719, kc_4869, kc_4881, kc_5148, kc_9999, kn_9999, kc_10000, kc_12345, kc_19741, kc_25433, kc_65536, kc_320403, kc_628412, kc_629093, kc_660401, kc_679843, kc_918640, kc_979410, kc_1178088, kc_6232410, kc_24644941, kc_36238189, kc_38270444, kc_392531318, kc_425693491, kc_1103515245, kc_1342154595, kc_2147483648, kc_42328242873, kc_891704255789, kc_1722105685577, kc_1858726030364, ct_0, ct_1, ct_2, ct_3, ct_4, ct_5, cf_0, cf_1, cf_2, cf_3, cf_4, cf_5, w_ty6, w_ty7, m_sv, m_z0, m_hd, m_g0, m_gs, m_s0, m_ss, m_ap, m_an, forall_const, true_and, and_true, ne_eq, not_true_eq_false, not_false_eq_true, false_implies, true_implies, implies_true, eq_self, reduceCtorEq, Nat.reduceDiv, Nat.reduceMod, Int.reduceToNat, or_true, true_or, or_false, false_or, or_self, m_it, m_if, m_c1, m_01, m_02, m_03, m_04, m_10, m_12, m_13, m_14, m_20, m_21, m_23, m_24, m_30, m_31, m_32, m_34, m_40, m_41, m_42, m_43]
  have e1_w : j_iop 0 (429 * (j : Int)) 355 = 429 * (j : Int) + 355 := jadd (by omega) (by omega)
  have e2_w : (429 * (j : Int) + 355).toNat = 429 * j + 355 := by omega
  rw [e1_w, e2_w]
  have hN_w := acc_n hQ hj
  generalize hNN : h 194 (429 * j + 355) = N at hN_w
  refine ⟨⟨by omega, by omega⟩, ?_⟩
  have cell_w : ∀ (k : Nat), k < 16 → (j_iop 0 (429 * (j : Int)) 356 = 429 * (j : Int) + 356) ∧ ((429 * (j : Int) + 356 + 3 * (k : Int)).toNat = 429 * j + (356 + 3 * k)) ∧ ((429 * (j : Int) + 356 + 3 * (k : Int) + 1).toNat = 429 * j + (357 + 3 * k)) ∧ ((429 * (j : Int) + 356 + 3 * (k : Int) + 2).toNat = 429 * j + (358 + 3 * k)) := fun k hk => ⟨jadd (by omega) (by omega), by omega, by omega, by omega⟩
  refine w_lp (fun en h' => ∃ (a : Int) (k : Nat) (i : Int), en = [182, 429 * (j : Int), s, c, v, N, a, (k : Int), i] ∧ (k : Int) ≤ N ∧ ((a = N ∧ ∀ q : Nat, q < k → ¬(h 194 (429 * j + (356 + 3 * q)) = s ∧ h 194 (429 * j + (357 + 3 * q)) = c)) ∨ (∃ q : Nat, a = (q : Int) ∧ (q : Int) < N ∧ h 194 (429 * j + (356 + 3 * q)) = s ∧ h 194 (429 * j + (357 + 3 * q)) = c)) ∧ h' = h) (fun en _ => (N - en.getD 7 0).toNat) ⟨N, 0, 0, rfl, by omega, Or.inl ⟨rfl, fun q hq => absurd hq (by omega)⟩, rfl⟩ ?_
  rintro en h1 ⟨a, k, i, rfl, k1_w, ha_w, rfl⟩
  refine ⟨?_, ?_⟩
  · show (N - (k : Int)).toNat < K
    omega
  simp only [wf_4, wf_40, wf_5, wf_50, wf_6, wl_1, wt_1, wu_1, wa_1, wl_4, wt_4, wu_4, wa_4, wl_5, wt_5, wu_5, wa_5, wl_6, wt_6, wu_6, wa_6, wl_9, wt_9, wu_9, wa_9, wl_10, wt_10, wu_10, wa_10, wl_11, wt_11, wu_11, wa_11, wl_13, wt_13, wu_13, wa_13, wl_14, wt_14, wu_14, wa_14, wl_15, wt_15, wu_15, wa_15, wl_16, wt_16, wu_16, wa_16, wl_17, wt_17, wu_17, wa_17, wl_20, wt_20, wu_20, wa_20, wl_21, wt_21, wu_21, wa_21, wl_22, wt_22, wu_22, wa_22, wl_23, wt_23, wu_23, wa_23, wl_24, wt_24, wu_24, wa_24, wl_26, wt_26, wu_26, wa_26, wl_27, wt_27, wu_27, wa_27, wl_28, wt_28, wu_28, wa_28, we_1, we_3, we_10, we_14, we_15, we_16, we_17, we_18, we_20, we_21, we_22, we_24, we_25, we_26, we_27, we_28, we_30, we_31, we_32, wc_20, wc_21, wc_22, wc_24, wc_25, wc_26, wc_27, wc_3, wc_4, wc_7, wc_28, wc_32, ws_1, ws_2, ws_3, ws_4, ws_9, ws_10, ws_11, ws_14, ws_15, ws_16, ws_27, ws_17, ws_20, ws_28, kc_0, kc_1, kn_1, kc_2, kn_2, kc_3, kc_4, kc_5, kc_6, kc_7, kc_8, kc_9, kc_10, kc_12, kc_13, kc_14, kc_16, kc_17, kc_18, kc_19, kc_20, kc_21, kc_22, kc_24, kc_28, kc_30, kc_32, kc_37, kc_40, kc_41, kc_42, kc_43, kc_45, kc_48, kc_56, kc_57, kc_59, kc_60, kc_61, kc_64, kc_73, kc_78, kc_91, kc_95, kc_96, kc_97, kc_98, kc_99, kc_100, kc_112, kc_122, kc_125, kc_126, kc_150, kc_162, kc_163, kc_168, kc_186, kc_190, kc_200, kc_250, kc_255, kc_355, kc_356, kc_404, kc_405, kc_429, kc_573, kc_999, kc_1000, kc_1002, kc_1100, kc_1891, kc_2200, kc_4719, kc_4869, kc_4881, kc_5148, kc_9999, kn_9999, kc_10000, kc_12345, kc_19741, kc_25433, kc_65536, kc_320403, kc_628412, kc_629093, kc_660401, kc_679843, kc_918640, kc_979410, kc_1178088, kc_6232410, kc_24644941, kc_36238189, kc_38270444, kc_392531318, kc_425693491, kc_1103515245, kc_1342154595, kc_2147483648, kc_42328242873, kc_891704255789, kc_1722105685577, kc_1858726030364, ct_0, ct_1, ct_2, ct_3, ct_4, ct_5, cf_0, cf_1, cf_2, cf_3, cf_4, cf_5, w_ty6, w_ty7, m_sv, m_z0, m_hd, m_g0, m_gs, m_s0, m_ss, m_ap, m_an, forall_const, true_and, and_true, ne_eq, not_true_eq_false, not_false_eq_true, false_implies, true_implies, implies_true, eq_self, reduceCtorEq, Nat.reduceDiv, Nat.reduceMod, Int.reduceToNat, or_true, true_or, or_false, false_or, or_self, m_it, m_if, m_c1, m_01, m_02, m_03, m_04, m_10, m_12, m_13, m_14, m_20, m_21, m_23, m_24, m_30, m_31, m_32, m_34, m_40, m_41, m_42, m_43]
  refine ⟨fun hk => ?_, fun hk => ?_⟩
  · obtain ⟨f1_w, f2_w, f3_w, -⟩ := cell_w k (by omega)
    rw [f1_w]
    have f4_w : j_iop 0 (429 * (j : Int) + 356) (j_iop 2 3 (k : Int)) = 429 * (j : Int) + 356 + 3 * (k : Int) := by
      simp (disch := omega) only [jmul, jadd]
    rw [f4_w]
    have f5_w : j_iop 0 (429 * (j : Int) + 356 + 3 * (k : Int)) 1 = 429 * (j : Int) + 356 + 3 * (k : Int) + 1 := jadd (by omega) (by omega)
    rw [f5_w, f2_w, f3_w, jinc (by omega) (by omega)]
    have fin_w : ∀ a' : Int, ((a' = N ∧ ∀ q : Nat, q < k + 1 → ¬(h1 194 (429 * j + (356 + 3 * q)) = s ∧ h1 194 (429 * j + (357 + 3 * q)) = c)) ∨ (∃ q : Nat, a' = (q : Int) ∧ (q : Int) < N ∧ h1 194 (429 * j + (356 + 3 * q)) = s ∧ h1 194 (429 * j + (357 + 3 * q)) = c)) → (∃ (a_1 : Int) (k_1 : Nat) (i : Int), [182, 429 * (j : Int), s, c, v, N, a', (k : Int) + 1, 429 * (j : Int) + 356 + 3 * (k : Int)] = [182, 429 * (j : Int), s, c, v, N, a_1, (k_1 : Int), i] ∧ (k_1 : Int) ≤ N ∧ ((a_1 = N ∧ ∀ q : Nat, q < k_1 → ¬(h1 194 (429 * j + (356 + 3 * q)) = s ∧ h1 194 (429 * j + (357 + 3 * q)) = c)) ∨ (∃ q : Nat, a_1 = (q : Int) ∧ (q : Int) < N ∧ h1 194 (429 * j + (356 + 3 * q)) = s ∧ h1 194 (429 * j + (357 + 3 * q)) = c))) ∧ (N - ((k : Int) + 1)).toNat < (N - (k : Int)).toNat := fun a' ha' => ⟨⟨a', k + 1, _, rfl, by omega, ha'⟩, by omega⟩
    have no : ¬(h1 194 (429 * j + (356 + 3 * k)) = s ∧ h1 194 (429 * j + (357 + 3 * k)) = c) → ((a = N ∧ ∀ q : Nat, q < k + 1 → ¬(h1 194 (429 * j + (356 + 3 * q)) = s ∧ h1 194 (429 * j + (357 + 3 * q)) = c)) ∨ (∃ q : Nat, a = (q : Int) ∧ (q : Int) < N ∧ h1 194 (429 * j + (356 + 3 * q)) = s ∧ h1 194 (429 * j + (357 + 3 * q)) = c)) := fun hno => by
      rcases ha_w with ⟨h2, h3⟩ | h2
      · refine Or.inl ⟨h2, fun q hq => ?_⟩
        by_cases e : q = k
        · subst e
          exact hno
        · exact h3 q (by omega)
      · exact Or.inr h2
    exact ⟨⟨by omega, by omega⟩, fun z1 => ⟨⟨by omega, by omega⟩, fun z2 => fin_w _ (Or.inr ⟨k, rfl, hk, z1, z2⟩), fun z2 => fin_w _ (no (fun z => z2 z.2))⟩, fun z1 => fin_w _ (no (fun z => z1 z.1))⟩
  · have kN_w : (k : Int) = N := by omega
    have H : ∀ (q : Nat) (w u : Int), q < 16 → InI w → (((q : Int) = N ∧ u = N + 1 ∧ ∀ k : Nat, (k : Int) < N → ¬(h1 194 (429 * j + (356 + 3 * k)) = s ∧ h1 194 (429 * j + (357 + 3 * k)) = c)) ∨ ((q : Int) < N ∧ u = N ∧ h1 194 (429 * j + (356 + 3 * q)) = s ∧ h1 194 (429 * j + (357 + 3 * q)) = c)) →
        QK P (r_T 0) J (j_up (j_up (j_up (j_up h1 194 (429 * j + (356 + 3 * q)) s) 194 (429 * j + (357 + 3 * q)) c) 194 (429 * j + (358 + 3 * q)) w) 194 (429 * j + 355) u) ∧ KR (r_T 0) h1 (j_up (j_up (j_up (j_up h1 194 (429 * j + (356 + 3 * q)) s) 194 (429 * j + (357 + 3 * q)) c) 194 (429 * j + (358 + 3 * q)) w) 194 (429 * j + 355) u) ∧ DA j (j_up (j_up (j_up (j_up h1 194 (429 * j + (356 + 3 * q)) s) 194 (429 * j + (357 + 3 * q)) c) 194 (429 * j + (358 + 3 * q)) w) 194 (429 * j + 355) u) ∧ ∀ p, (p < 429 * j + 355 ∨ 429 * j + 429 ≤ p) → j_up (j_up (j_up (j_up h1 194 (429 * j + (356 + 3 * q)) s) 194 (429 * j + (357 + 3 * q)) c) 194 (429 * j + (358 + 3 * q)) w) 194 (429 * j + 355) u 194 p = h1 194 p := by
      intro q w u hq hw hcase
      have hu : 0 ≤ u ∧ u ≤ 16 := by omega
      obtain ⟨z1, y1⟩ := acc_up (o := 0) (t := iT) hQ hJ hj hq (by decide) ⟨s0, s1_w⟩
      obtain ⟨z2, y2⟩ := acc_up (o := 1) (t := iT) z1 hJ hj hq (by decide) ⟨c0, c1_w⟩
      obtain ⟨z3, y3⟩ := acc_up2 z2 hJ hj hq hw
      obtain ⟨z4, y4⟩ := st_QK z3 hJ (j := j) (i := 355) (v := u) hj (by decide) (st_fit_ok (lo_w := 355) (hi_w := 356) (t := (1, 0, 16)) (by decide +kernel) (by decide) (by decide) ⟨hu.1, hu.2, by unfold InI; omega⟩) (by unfold InI; omega)
      refine ⟨z4, ((y1.tr y2).tr y3).tr y4, ?_, fun p hp => ?_⟩
      · have cs : ∀ k : Nat, j_up (j_up (j_up (j_up h1 194 (429 * j + (356 + 3 * q)) s) 194 (429 * j + (357 + 3 * q)) c) 194 (429 * j + (358 + 3 * q)) w) 194 (429 * j + 355) u 194 (429 * j + (356 + 3 * k)) = if k = q then s else h1 194 (429 * j + (356 + 3 * k)) := fun k => by
          rw [up_ne (fun z => by have := z.2; omega), up_ne (fun z => by have := z.2; omega), up_ne (fun z => by have := z.2; omega)]
          split
          · rename_i e
            rw [e, up_eq]
          · exact up_ne (fun z => by have := z.2; omega)
        have cc : ∀ k : Nat, j_up (j_up (j_up (j_up h1 194 (429 * j + (356 + 3 * q)) s) 194 (429 * j + (357 + 3 * q)) c) 194 (429 * j + (358 + 3 * q)) w) 194 (429 * j + 355) u 194 (429 * j + (357 + 3 * k)) = if k = q then c else h1 194 (429 * j + (357 + 3 * k)) := fun k => by
          rw [up_ne (fun z => by have := z.2; omega), up_ne (fun z => by have := z.2; omega)]
          split
          · rename_i e
            rw [e, up_eq]
          · rw [up_ne (fun z => by have := z.2; omega), up_ne (fun z => by have := z.2; omega)]
        intro k k' hkk hk'
        rw [up_eq] at hk'
        rw [cs, cs, cc, cc]
        rcases hcase with ⟨x1_w, x2_w, x3⟩ | ⟨x1_w, x2_w, x3, x4_w⟩
        · have kq : k ≠ q := by omega
          rw [if_neg kq, if_neg kq]
          by_cases e : k' = q
          · rw [if_pos e, if_pos e]
            exact x3 k (by omega)
          · rw [if_neg e, if_neg e]
            exact hd_w k k' hkk (by rw [hNN]; omega)
        · have old_w := hd_w k k' hkk (by rw [hNN]; omega)
          have r1_w : (if k = q then s else h1 194 (429 * j + (356 + 3 * k))) = h1 194 (429 * j + (356 + 3 * k)) := by
            split
            · rename_i e
              rw [e, x3]
            · rfl
          have r2 : (if k = q then c else h1 194 (429 * j + (357 + 3 * k))) = h1 194 (429 * j + (357 + 3 * k)) := by
            split
            · rename_i e
              rw [e, x4_w]
            · rfl
          have r3 : (if k' = q then s else h1 194 (429 * j + (356 + 3 * k'))) = h1 194 (429 * j + (356 + 3 * k')) := by
            split
            · rename_i e
              rw [e, x3]
            · rfl
          have r4 : (if k' = q then c else h1 194 (429 * j + (357 + 3 * k'))) = h1 194 (429 * j + (357 + 3 * k')) := by
            split
            · rename_i e
              rw [e, x4_w]
            · rfl
          rw [r1_w, r2, r3, r4]
          exact old_w
      · rw [up_ne (fun z => by have := z.2; omega), up_ne (fun z => by have := z.2; omega), up_ne (fun z => by have := z.2; omega), up_ne (fun z => by have := z.2; omega)]
    obtain ⟨q, rfl, hq, hcase⟩ : ∃ q : Nat, a = (q : Int) ∧ q < 16 ∧ (((q : Int) = N ∧ ∀ k : Nat, (k : Int) < N → ¬(h1 194 (429 * j + (356 + 3 * k)) = s ∧ h1 194 (429 * j + (357 + 3 * k)) = c)) ∨ ((q : Int) < N ∧ h1 194 (429 * j + (356 + 3 * q)) = s ∧ h1 194 (429 * j + (357 + 3 * q)) = c)) := by
      rcases ha_w with ⟨rfl, h3⟩ | ⟨q, rfl, x1_w, x2_w⟩
      · have h4 : ∀ k : Nat, (k : Int) < a → ¬(h1 194 (429 * j + (356 + 3 * k)) = s ∧ h1 194 (429 * j + (357 + 3 * k)) = c) := fun k' hk' => h3 k' (by omega)
        have h5 := acc_full hQ hj hd_w s0 s1_w c0 c1_w (by rw [hNN]; exact h4)
        rw [hNN] at h5
        exact ⟨a.toNat, by omega, by omega, Or.inl ⟨by omega, h4⟩⟩
      · exact ⟨q, rfl, by omega, Or.inr ⟨x1_w, x2_w⟩⟩
    obtain ⟨f1_w, f2_w, f3_w, f3'⟩ := cell_w q hq
    rw [f1_w, e1_w, e2_w]
    have f4_w : j_iop 0 (429 * (j : Int) + 356) (j_iop 2 3 (q : Int)) = 429 * (j : Int) + 356 + 3 * (q : Int) := by
      simp (disch := omega) only [jmul, jadd]
    rw [f4_w]
    have f5_w : j_iop 0 (429 * (j : Int) + 356 + 3 * (q : Int)) 1 = 429 * (j : Int) + 356 + 3 * (q : Int) + 1 := jadd (by omega) (by omega)
    have f6_w : j_iop 0 (429 * (j : Int) + 356 + 3 * (q : Int)) 2 = 429 * (j : Int) + 356 + 3 * (q : Int) + 2 := jadd (by omega) (by omega)
    rw [f5_w, f6_w, f2_w, f3_w, f3']
    have b0 : 0 ≤ 429 * (j : Int) + 356 + 3 * (q : Int) ∧ 429 * (j : Int) + 356 + 3 * (q : Int) < 5148 := ⟨by omega, by omega⟩
    have b1 : 0 ≤ 429 * (j : Int) + 356 + 3 * (q : Int) + 1 ∧ 429 * (j : Int) + 356 + 3 * (q : Int) + 1 < 5148 := ⟨by omega, by omega⟩
    have b2 : 0 ≤ 429 * (j : Int) + 356 + 3 * (q : Int) + 2 ∧ 429 * (j : Int) + 356 + 3 * (q : Int) + 2 < 5148 := ⟨by omega, by omega⟩
    have b3 : 0 ≤ 429 * (j : Int) + 355 ∧ 429 * (j : Int) + 355 < 5148 := ⟨by omega, by omega⟩
    have rd : ∀ w : Int, j_up (j_up (j_up h1 194 (429 * j + (356 + 3 * q)) s) 194 (429 * j + (357 + 3 * q)) c) 194 (429 * j + (358 + 3 * q)) w 194 (429 * j + 355) = N := fun w => by
      rw [up_ne (fun z => by have := z.2; omega), up_ne (fun z => by have := z.2; omega), up_ne (fun z => by have := z.2; omega)]
      exact hNN
    simp only [rd]
    refine ⟨b0, b1, fun z => ⟨b2, b3, fun _ => ?_, fun z2 => absurd z z2⟩, fun z => ⟨b2, b2, b3, fun z2 => absurd z2 z, fun _ => ?_⟩⟩
    · rw [jadd (by omega) (by omega)]
      rcases hcase with ⟨x1_w, x2_w⟩ | ⟨x1_w, x2_w⟩
      · exact H q v (N + 1) hq hv (Or.inl ⟨x1_w, rfl, x2_w⟩)
      · exact absurd z (by omega)
    · rw [jadd (x := N) (y := 0) (by omega) (by omega), Int.add_zero]
      rcases hcase with ⟨x1_w, x2_w⟩ | ⟨x1_w, x2_w⟩
      · exact absurd x1_w z
      · exact H q _ N hq (iop_in _ _ _) (Or.inr ⟨x1_w, rfl, x2_w⟩)
end HA8
