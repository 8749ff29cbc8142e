/-! ===== the reference's parser: what was fed is_w cut_w ===== -/
def VN (m : Nat) (h : XH) : Prop := ∀ i : Nat, i < m → h 184 i = 2 → 0 ≤ h 186 i ∧ h 186 i ≤ 9999
def B190 (P : Int × Int) (h : XH) (r : List Int) (h' : XH) : Prop := r = [] ∧ ∃ N, PK P N h' ∧ h' 182 7 = 0 ∧ ∀ o k : Nat, (o = 182 → k ≠ 2 ∧ k ≠ 3 ∧ k ≠ 7 ∧ k ≠ 8) → (o ≠ 184 ∧ o ≠ 185 ∧ o ≠ 186) → h' o k = h o k
section PARN
variable {P : Int × Int} {N : Nat} {g : Nat × Nat} {xs : Nat → Int} {L K n : Nat} {ck : Nat → List Nat} {cW : Nat → Nat → Int} {h : XH}
/-- a cell_w of what was cut_w -/
theorem tw_QK (hQ : QK P (r_T 0) (RJ P) h) {q i : Nat} {v : Int} (hH : HT g_fk a_g3 (j_up h q i v)) (h0 : q = 184 ∨ q = 185 ∨ q = 186) (hv : ∀ r ∈ (r_A q).2.2, r.1 ≤ i → i < r.2.1 → IV P r.2.2 v) : QK P (r_T 0) (RJ P) (j_up h q i v) := by
  have o : ∀ p : Nat, p ≠ 184 → p ≠ 185 → p ≠ 186 → j_up h q i v p = h p := fun p z1 z2 z3 => funext fun k => up_ne (fun z => by omega)
  refine ⟨hH, fun k => ?_, fun q' hq' => ?_, ?_⟩
  · rw [o 182 (by decide) (by decide) (by decide)]
    exact hQ.2.1 k
  · by_cases e : q' = q
    · subst e
      intro r hr a b k1_w k2 k3
      have eb : (qA (r_T 0) q').2.1 = 0 := by
        rcases h0 with rfl | rfl | rfl <;> rfl
      have old_w := hQ.2.2.1 q' hq' r hr a b k1_w k2 k3
      rw [eb, Nat.zero_mul, Nat.zero_add] at old_w ⊢
      by_cases e2_w : a = i
      · subst e2_w
        rw [up_eq]
        exact hv r hr k1_w k2
      · rw [up_ne (fun z => e2_w z.2)]
        exact old_w
    · have e2_w : j_up h q i v q' = h q' := funext fun i => up_ne (fun z => e z.1)
      rw [e2_w]
      exact hQ.2.2.1 q' hq'
  · unfold RJ
    rw [o 188 (by decide) (by decide) (by decide), o 189 (by decide) (by decide) (by decide), o 191 (by decide) (by decide) (by decide)]
    exact hQ.2.2.2
theorem tw_4 (hQ : QK P (r_T 0) (RJ P) h) {i : Nat} {v : Int} (h0 : 0 ≤ v) (h4 : v ≤ 4) : QK P (r_T 0) (RJ P) (j_up h 184 i v) := by
  have hin : InI v := ⟨by omega, by omega⟩
  exact tw_QK hQ (ht_up hQ.1 (by decide) hin) (Or.inl rfl) (fun r hr _ _ => by
    have hr2 : r ∈ [(0, 1002, ((1, 0, 4) : IT))] := hr
    rw [List.mem_singleton] at hr2
    subst hr2
    exact ⟨h0, h4, hin⟩)
theorem tw_5 (hQ : QK P (r_T 0) (RJ P) h) {i : Nat} {v : Int} (h0 : 0 ≤ v) (h4 : v ≤ 1000) : QK P (r_T 0) (RJ P) (j_up h 185 i v) := by
  have hin : InI v := ⟨by omega, by omega⟩
  exact tw_QK hQ (ht_up hQ.1 (by decide) hin) (Or.inr (Or.inl rfl)) (fun r hr _ _ => by
    have hr2 : r ∈ [(0, 1002, ((1, 0, 1000) : IT))] := hr
    rw [List.mem_singleton] at hr2
    subst hr2
    exact ⟨h0, h4, hin⟩)
theorem tw_6 (hQ : QK P (r_T 0) (RJ P) h) {i : Nat} {v : Int} (hin : InL v) : QK P (r_T 0) (RJ P) (j_up h 186 i v) :=
  tw_QK hQ (ht_upL hQ.1 (by decide) hin) (Or.inr (Or.inr rfl)) (fun r hr _ _ => by
    have hr2 : r ∈ [(0, 1002, ((2, (-9223372036854775808), 9223372036854775807) : IT))] := hr
    rw [List.mem_singleton] at hr2
    subst hr2
    exact IV.topL hin)
end PARN
section PARO
variable {P : Int × Int} {N : Nat} {g : Nat × Nat} {xs : Nat → Int} {L K n : Nat} {ck : Nat → List Nat} {cW : Nat → Nat → Int} {h : XH}
theorem g_190 (hK_w : 4294967300 ≤ K) (c186 : GS 186 (fun a => 97 ≤ a ∧ a ≤ 122) g (evF xs L ck K cW g_M n)) (c187 : GS 187 (fun a => 48 ≤ a ∧ a ≤ 57) g (evF xs L ck K cW g_M n)) (c188 : G188 g (evF xs L ck K cW g_M n)) (c189 : GS 189 (fun a => a = 40 ∨ a = 41 ∨ a = 59 ∨ a = 61 ∨ a = 60 ∨ a = 43 ∨ a = 45 ∨ a = 42) g (evF xs L ck K cW g_M n)) : G190 P g (evF xs L ck K cW g_M (n + 1)) := fun h hQ hD h0 h1 => by
  suffices hs : ∃ r h', evF xs L ck K cW g_M (n + 1) 190 [182] ((a_g3, g), h) = some (1, r, ((a_g3, g), h')) ∧ B190 P h r h' by
    obtain ⟨r, h', e1_w, rfl, N, e2_w⟩ := hs
    exact ⟨N, h', e1_w, e2_w⟩
  refine tr_of gm_190 ?_
  show wS _ _ K bb_190 [182, 0, 0, 0, 0, 0, 0] h _
  generalize evF xs L ck K cW g_M n = F at c186 c187 c188 c189 ⊢
  unfold bb_190
  simp only [wf_4, wf_40, wf_5, wf_50, wf_6, wl_1, wt_1, wu_1, wa_1, wl_4, wt_4, wu_4, wa_4, wl_5, wt_5, wu_5, wa_5, wl_6, wt_6, wu_6, wa_6, wl_9, wt_9, wu_9, wa_9, wl_10, wt_10, wu_10, wa_10, wl_11, wt_11, wu_11, wa_11, wl_13, wt_13, wu_13, wa_13, wl_14, wt_14, wu_14, wa_14, wl_15, wt_15, wu_15, wa_15, wl_16, wt_16, wu_16, wa_16, wl_17, wt_17, wu_17, wa_17, wl_20, wt_20, wu_20, wa_20, wl_21, wt_21, wu_21, wa_21, wl_22, wt_22, wu_22, wa_22, wl_23, wt_23, wu_23, wa_23, wl_24, wt_24, wu_24, wa_24, wl_26, wt_26, wu_26, wa_26, wl_27, wt_27, wu_27, wa_27, wl_28, wt_28, wu_28, wa_28, we_1, we_3, we_10, we_14, we_15, we_16, we_17, we_18, we_20, we_21, we_22, we_24, we_25, we_26, we_27, we_28, we_30, we_31, we_32, wc_20, wc_21, wc_22, wc_24, wc_25, wc_26, wc_27, wc_3, wc_4, wc_7, wc_28, wc_32, ws_1, ws_2, ws_3, ws_4, ws_9, ws_10, ws_11, ws_14, ws_15, ws_16, ws_27, ws_17, ws_20, ws_28, kc_0, kc_1, kn_1, kc_2, kn_2, kc_3, kc_4, kc_5, kc_6, kc_7, kc_8, kc_9, kc_10, kc_12, kc_13, kc_14, kc_16, kc_17, kc_18, kc_19, kc_20, kc_21, kc_22, kc_24, kc_28, kc_30, kc_32, kc_37, kc_40, kc_41, kc_42, kc_43, kc_45, kc_48, kc_56, kc_57, kc_59, kc_60, kc_61, kc_64, kc_73, kc_78, kc_91, kc_95, kc_96, kc_97, kc_98, kc_99, kc_100, kc_112, kc_122, kc_125, kc_126, kc_150, kc_162, kc_163, kc_168, kc_186, kc_190, kc_200, kc_250, kc_255, kc_355, kc_356, kc_404, kc_405, kc_429, kc_573, kc_999, kc_1000, kc_1002, kc_1100, kc_1891, kc_2200, kc_4719, kc_4869, kc_4881, kc_5148, kc_9999, kn_9999, kc_10000, kc_12345, kc_19741, kc_25433, kc_65536, kc_320403, kc_628412, kc_629093, kc_660401, kc_679843, kc_918640, kc_979410, kc_1178088, kc_6232410, kc_24644941, kc_36238189, kc_38270444, kc_392531318, kc_425693491, kc_1103515245, kc_1342154595, kc_2147483648, kc_42328242873, kc_891704255789, kc_1722105685577, kc_1858726030364, ct_0, ct_1, ct_2, ct_3, ct_4, ct_5, cf_0, cf_1, cf_2, cf_3, cf_4, cf_5, w_ty6, w_ty7, m_sv, m_z0, m_hd, m_g0, m_gs, m_s0, m_ss, m_ap, m_an, forall_const, true_and, and_true, ne_eq, not_true_eq_false, not_false_eq_true, false_implies, true_implies, implies_true, eq_self, reduceCtorEq, Nat.reduceDiv, Nat.reduceMod, Int.reduceToNat, or_true, true_or, or_false, false_or, or_self, m_it, m_if, m_c1, m_01, m_02, m_03, m_04, m_10, m_12, m_13, m_14, m_20, m_21, m_23, m_24, m_30, m_31, m_32, m_34, m_40, m_41, m_42, m_43]
  have r2 : IV P (1, 0, 1000) (h 182 2) := hQ.2.1 2
  obtain ⟨S0_w, S1, S2⟩ := r2
  obtain ⟨S, hS_w⟩ : ∃ S : Nat, h 182 2 = (S : Int) := ⟨(h 182 2).toNat, by omega⟩
  have qa : QK P (r_T 0) (RJ P) (j_up h 182 3 (h 182 2)) := (fd_QK hQ rj_js (k := 3) (Or.inl rfl) ⟨S0_w, S1, S2⟩).1
  have qb : QK P (r_T 0) (RJ P) (j_up (j_up h 182 3 (h 182 2)) 182 2 0) := (fd_QK qa rj_js (k := 2) (Or.inl rfl) ⟨by decide, by decide, in_0⟩).1
  have fb : ∀ o k : Nat, (o = 182 → k ≠ 2 ∧ k ≠ 3 ∧ k ≠ 7 ∧ k ≠ 8) → j_up (j_up h 182 3 (h 182 2)) 182 2 0 o k = h o k := fun o k z => by
    rw [up_ne (fun y => (z y.1).1 y.2), up_ne (fun y => (z y.1).2.1 y.2)]
  have sb_w : j_up (j_up h 182 3 (h 182 2)) 182 2 0 182 3 = (S : Int) := by
    rw [up_ne (fun y => absurd y.2 (by decide)), up_eq, hS_w]
  generalize j_up (j_up h 182 3 (h 182 2)) 182 2 0 = H at qb fb sb_w ⊢
  refine w_lp (fun en h' => ∃ (m k : Nat) (c f v w : Int), en = [182, (m : Int), (k : Int), c, f, v, w] ∧ m ≤ k ∧ k ≤ S ∧ QK P (r_T 0) (RJ P) h' ∧ (∀ o i : Nat, (o ≠ 184 ∧ o ≠ 185 ∧ o ≠ 186) → h' o i = H o i) ∧ VN m h') (fun en _ => S - (en.getD 2 0).toNat) ⟨0, 0, 0, 0, 0, 0, rfl, by decide, by omega, qb, fun _ _ _ => rfl, fun i hi_w => by omega⟩ ?_
  rintro en h2 ⟨m, k, c, f, v, w, rfl, mk_w, kS, q2_w, f2_w, v2⟩
  refine ⟨?_, ?_⟩
  · show S - ((k : Int)).toNat < K
    omega
  simp only [wf_4, wf_40, wf_5, wf_50, wf_6, wl_1, wt_1, wu_1, wa_1, wl_4, wt_4, wu_4, wa_4, wl_5, wt_5, wu_5, wa_5, wl_6, wt_6, wu_6, wa_6, wl_9, wt_9, wu_9, wa_9, wl_10, wt_10, wu_10, wa_10, wl_11, wt_11, wu_11, wa_11, wl_13, wt_13, wu_13, wa_13, wl_14, wt_14, wu_14, wa_14, wl_15, wt_15, wu_15, wa_15, wl_16, wt_16, wu_16, wa_16, wl_17, wt_17, wu_17, wa_17, wl_20, wt_20, wu_20, wa_20, wl_21, wt_21, wu_21, wa_21, wl_22, wt_22, wu_22, wa_22, wl_23, wt_23, wu_23, wa_23, wl_24, wt_24, wu_24, wa_24, wl_26, wt_26, wu_26, wa_26, wl_27, wt_27, wu_27, wa_27, wl_28, wt_28, wu_28, wa_28, we_1, we_3, we_10, we_14, we_15, we_16, we_17, we_18, we_20, we_21, we_22, we_24, we_25, we_26, we_27, we_28, we_30, we_31, we_32, wc_20, wc_21, wc_22, wc_24, wc_25, wc_26, wc_27, wc_3, wc_4, wc_7, wc_28, wc_32, ws_1, ws_2, ws_3, ws_4, ws_9, ws_10, ws_11, ws_14, ws_15, ws_16, ws_27, ws_17, ws_20, ws_28, kc_0, kc_1, kn_1, kc_2, kn_2, kc_3, kc_4, kc_5, kc_6, kc_7, kc_8, kc_9, kc_10, kc_12, kc_13, kc_14, kc_16, kc_17, kc_18, kc_19, kc_20, kc_21, kc_22, kc_24, kc_28, kc_30, kc_32, kc_37, kc_40, kc_41, kc_42, kc_43, kc_45, kc_48, kc_56, kc_57, kc_59, kc_60, kc_61, kc_64, kc_73, kc_78, kc_91, kc_95, kc_96, kc_97, kc_98, kc_99, kc_100, kc_112, kc_122, kc_125, kc_126, kc_150, kc_162, kc_163, kc_168, kc_186, kc_190, kc_200, kc_250, kc_255, kc_355, kc_356, kc_404, kc_405, kc_429, kc_573, kc_999, kc_1000, kc_1002, kc_1100, kc_1891, kc_2200, kc_4719, kc_4869, kc_4881, kc_5148, kc_9999, kn_9999, kc_10000, kc_12345, kc_19741, kc_25433, kc_65536, kc_320403, kc_628412, kc_629093, kc_660401, kc_679843, kc_918640, kc_979410, kc_1178088, kc_6232410, kc_24644941, kc_36238189, kc_38270444, kc_392531318, kc_425693491, kc_1103515245, kc_1342154595, kc_2147483648, kc_42328242873, kc_891704255789, kc_1722105685577, kc_1858726030364, ct_0, ct_1, ct_2, ct_3, ct_4, ct_5, cf_0, cf_1, cf_2, cf_3, cf_4, cf_5, w_ty6, w_ty7, m_sv, m_z0, m_hd, m_g0, m_gs, m_s0, m_ss, m_ap, m_an, forall_const, true_and, and_true, ne_eq, not_true_eq_false, not_false_eq_true, false_implies, true_implies, implies_true, eq_self, reduceCtorEq, Nat.reduceDiv, Nat.reduceMod, Int.reduceToNat, or_true, true_or, or_false, false_or, or_self, m_it, m_if, m_c1, m_01, m_02, m_03, m_04, m_10, m_12, m_13, m_14, m_20, m_21, m_23, m_24, m_30, m_31, m_32, m_34, m_40, m_41, m_42, m_43]
  rw [f2_w 182 3 (by decide), sb_w]
  refine ⟨fun hk => ?_, fun hk => ?_⟩
  · have hk2 : k < S := by omega
    rw [Int.toNat_natCast, Int.toNat_natCast]
    have j1 : j32 ((k : Int) + 1) = ((k + 1 : Nat) : Int) := (j32_in ⟨by omega, by omega⟩).trans (by omega)
    rw [j1]
    have step_w : (∃ (m_1 k_1 : Nat) (c f_1 v_1 w_1 : Int), [182, (m : Int), ((k + 1 : Nat) : Int), h2 183 k, f, v, w] = [182, (m_1 : Int), (k_1 : Int), c, f_1, v_1, w_1] ∧ m_1 ≤ k_1 ∧ k_1 ≤ S ∧ QK P (r_T 0) (RJ P) h2 ∧ (∀ o i : Nat, ¬o = 184 ∧ ¬o = 185 ∧ ¬o = 186 → h2 o i = H o i) ∧ VN m_1 h2) ∧ S - ((k + 1 : Nat) : Int).toNat < S - k := ⟨⟨m, k + 1, _, _, _, _, rfl, by omega, by omega, q2_w, f2_w, v2⟩, by omega⟩
    refine ⟨⟨by omega, by omega⟩, fun _ => step_w, fun _ => ⟨fun _ => step_w, fun _ => ⟨⟨by omega, by omega⟩, ?_⟩⟩⟩
    have q5_w := tw_5 q2_w (i := m) (v := (k : Int)) (by omega) (by omega)
    have f5_w : ∀ o i : Nat, (o ≠ 184 ∧ o ≠ 185 ∧ o ≠ 186) → j_up h2 185 m (k : Int) o i = H o i := fun o i z => (up_ne (fun y => z.2.1 y.1)).trans (f2_w o i z)
    have v5 : VN m (j_up h2 185 m (k : Int)) := fun i hi_w hs => by
      rw [up_ne (fun y => absurd y.1 (by decide))] at hs ⊢
      exact v2 i hi_w hs
    have c5 : h2 183 k = H 183 k := f2_w 183 k (by decide)
    rw [c5]
    generalize j_up h2 185 m (k : Int) = h5 at q5_w f5_w v5 ⊢
    obtain ⟨u, x1_w, -, x3⟩ := c186 h5 (H 183 k)
    obtain ⟨u2_w, y1, -, y3⟩ := c187 h5 (H 183 k)
    have endT : ∀ (s v' : Int) (j : Nat), 0 ≤ s → s ≤ 4 → InL v' → (s = 2 → 0 ≤ v' ∧ v' ≤ 9999) → k < j → j ≤ S → (∃ (m_1 k_1 : Nat) (c f v w_1 : Int), [182, j32 ((m : Int) + 1), (j : Int), H 183 k, (k : Int), v', w] = [182, (m_1 : Int), (k_1 : Int), c, f, v, w_1] ∧ m_1 ≤ k_1 ∧ k_1 ≤ S ∧ QK P (r_T 0) (RJ P) (j_up (j_up h5 184 m s) 186 m v') ∧ (∀ o i : Nat, ¬o = 184 ∧ ¬o = 185 ∧ ¬o = 186 → j_up (j_up h5 184 m s) 186 m v' o i = H o i) ∧ VN m_1 (j_up (j_up h5 184 m s) 186 m v')) ∧ S - j < S - k := fun s v' j s0 s4_w iv_w s2_w kj jS_w => by
      rw [j32_in (v := (m : Int) + 1) ⟨by omega, by omega⟩]
      refine ⟨⟨m + 1, j, _, _, _, _, rfl, by omega, jS_w, tw_6 (tw_4 q5_w s0 s4_w) iv_w, fun o i z => ?_, fun i hi_w hs => ?_⟩, by omega⟩
      · rw [up_ne (fun y => z.2.2 y.1), up_ne (fun y => z.1 y.1)]
        exact f5_w o i z
      · rw [up_ne (fun y => absurd y.1 (by decide))] at hs
        by_cases e : i = m
        · subst e
          rw [up_eq] at hs
          rw [up_eq]
          exact s2_w hs
        · rw [up_ne (fun y => e y.2)] at hs
          rw [up_ne (fun y => e y.2), up_ne (fun y => absurd y.1 (by decide))]
          exact v5 i (by omega) hs
    have bm : 0 ≤ (m : Int) ∧ (m : Int) < 1002 := ⟨by omega, by omega⟩
    refine ⟨[u], h5, x1_w, fun hu => ?_, fun hu => ⟨[u2_w], h5, y1, fun hu2 => ?_, fun hu2 => ?_⟩⟩
    · refine w_lp (fun en h' => ∃ (j : Nat) (v' : Int), en = [182, (m : Int), (j : Int), H 183 k, (k : Int), v', w] ∧ k ≤ j ∧ j ≤ S ∧ InL v' ∧ h' = h5) (fun en _ => S - (en.getD 2 0).toNat) ⟨k, 0, rfl, by omega, by omega, ⟨by decide, by decide⟩, rfl⟩ ?_
      rintro en h6 ⟨j, v', rfl, kj, jS_w, iv_w, rfl⟩
      refine ⟨by show S - ((j : Int)).toNat < K; omega, ?_⟩
      simp only [wf_4, wf_40, wf_5, wf_50, wf_6, wl_1, wt_1, wu_1, wa_1, wl_4, wt_4, wu_4, wa_4, wl_5, wt_5, wu_5, wa_5, wl_6, wt_6, wu_6, wa_6, wl_9, wt_9, wu_9, wa_9, wl_10, wt_10, wu_10, wa_10, wl_11, wt_11, wu_11, wa_11, wl_13, wt_13, wu_13, wa_13, wl_14, wt_14, wu_14, wa_14, wl_15, wt_15, wu_15, wa_15, wl_16, wt_16, wu_16, wa_16, wl_17, wt_17, wu_17, wa_17, wl_20, wt_20, wu_20, wa_20, wl_21, wt_21, wu_21, wa_21, wl_22, wt_22, wu_22, wa_22, wl_23, wt_23, wu_23, wa_23, wl_24, wt_24, wu_24, wa_24, wl_26, wt_26, wu_26, wa_26, wl_27, wt_27, wu_27, wa_27, wl_28, wt_28, wu_28, wa_28, we_1, we_3, we_10, we_14, we_15, we_16, we_17, we_18, we_20, we_21, we_22, we_24, we_25, we_26, we_27, we_28, we_30, we_31, we_32, wc_20, wc_21, wc_22, wc_24, wc_25, wc_26, wc_27, wc_3, wc_4, wc_7, wc_28, wc_32, ws_1, ws_2, ws_3, ws_4, ws_9, ws_10, ws_11, ws_14, ws_15, ws_16, ws_27, ws_17, ws_20, ws_28, kc_0, kc_1, kn_1, kc_2, kn_2, kc_3, kc_4, kc_5, kc_6, kc_7, kc_8, kc_9, kc_10, kc_12, kc_13, kc_14, kc_16, kc_17, kc_18, kc_19, kc_20, kc_21, kc_22, kc_24, kc_28, kc_30, kc_32, kc_37, kc_40, kc_41, kc_42, kc_43, kc_45, kc_48, kc_56, kc_57, kc_59, kc_60, kc_61, kc_64, kc_73, kc_78, kc_91, kc_95, kc_96, kc_97, kc_98, kc_99, kc_100, kc_112, kc_122, kc_125, kc_126, kc_150, kc_162, kc_163, kc_168, kc_186, kc_190, kc_200, kc_250, kc_255, kc_355, kc_356, kc_404, kc_405, kc_429, kc_573, kc_999, kc_1000, kc_1002, kc_1100, kc_1891, kc_2200, kc_4719, kc_4869, kc_4881, kc_5148, kc_9999, kn_9999, kc_10000, kc_12345, kc_19741, kc_25433, kc_65536, kc_320403, kc_628412, kc_629093, kc_660401, kc_679843, kc_918640, kc_979410, kc_1178088, kc_6232410, kc_24644941, kc_36238189, kc_38270444, kc_392531318, kc_425693491, kc_1103515245, kc_1342154595, kc_2147483648, kc_42328242873, kc_891704255789, kc_1722105685577, kc_1858726030364, ct_0, ct_1, ct_2, ct_3, ct_4, ct_5, cf_0, cf_1, cf_2, cf_3, cf_4, cf_5, w_ty6, w_ty7, m_sv, m_z0, m_hd, m_g0, m_gs, m_s0, m_ss, m_ap, m_an, forall_const, true_and, and_true, ne_eq, not_true_eq_false, not_false_eq_true, false_implies, true_implies, implies_true, eq_self, reduceCtorEq, Nat.reduceDiv, Nat.reduceMod, Int.reduceToNat, or_true, true_or, or_false, false_or, or_self, m_it, m_if, m_c1, m_01, m_02, m_03, m_04, m_10, m_12, m_13, m_14, m_20, m_21, m_23, m_24, m_30, m_31, m_32, m_34, m_40, m_41, m_42, m_43]
      rw [f5_w 182 3 (by decide), sb_w]
      simp only [Int.toNat_natCast]
      obtain ⟨t, z1, -, z3⟩ := c186 h6 (h6 183 j)
      refine ⟨fun hj => ⟨⟨by omega, by omega⟩, [t], h6, z1, fun ht => ?_, fun ht => ?_⟩, fun hj => ⟨fun _ => ⟨bm, bm, endT 4 v' j (by decide) (by decide) iv_w (fun z => absurd z (by decide)) (by omega) jS_w⟩, fun _ => ⟨bm, bm, endT 1 v' j (by decide) (by decide) iv_w (fun z => absurd z (by decide)) (by omega) jS_w⟩⟩⟩
      · have j1 : j32 ((j : Int) + 1) = ((j + 1 : Nat) : Int) := (j32_in ⟨by omega, by omega⟩).trans (by omega)
        rw [j1]
        obtain ⟨y, w1_w, w2_w⟩ := c188 h6 (h6 183 j)
        exact ⟨fun _ => ⟨⟨by omega, by omega⟩, [y], h6, w1_w, ⟨j + 1, _, rfl, by omega, by omega, lop_in 0 _ _, rfl⟩, by omega⟩, fun _ => ⟨⟨j + 1, v', rfl, by omega, by omega, iv_w, rfl⟩, by omega⟩⟩
      · have kj2 : k < j := by
          rcases Nat.lt_or_ge k j with z | z
          · exact z
          · have e : j = k := by omega
            subst e
            have c := f5_w 183 j (by decide)
            rw [← c] at x3
            exact absurd ht (z3.mpr (x3.mp hu))
        exact ⟨fun _ => ⟨bm, bm, endT 4 v' j (by decide) (by decide) iv_w (fun z => absurd z (by decide)) kj2 jS_w⟩, fun _ => ⟨bm, bm, endT 1 v' j (by decide) (by decide) iv_w (fun z => absurd z (by decide)) kj2 jS_w⟩⟩
    · refine w_lp (fun en h' => ∃ (j : Nat) (v' : Int), en = [182, (m : Int), (j : Int), H 183 k, (k : Int), v', w] ∧ k ≤ j ∧ j ≤ S ∧ (0 ≤ v' ∧ v' ≤ 9999 ∧ (j = k → v' ≤ 0) ∧ (j = k + 1 → v' ≤ 9) ∧ (j = k + 2 → v' ≤ 99) ∧ (j = k + 3 → v' ≤ 999)) ∧ h' = h5) (fun en _ => S - (en.getD 2 0).toNat) ⟨k, 0, rfl, by omega, by omega, ⟨by omega, by omega, fun _ => by omega, fun _ => by omega, fun _ => by omega, fun _ => by omega⟩, rfl⟩ ?_
      rintro en h6 ⟨j, v', rfl, kj, jS_w, ⟨v0_w, v9, d0_w, d1_w, d2_w, d3_w⟩, rfl⟩
      refine ⟨by show S - ((j : Int)).toNat < K; omega, ?_⟩
      have iv_w : InL v' := ⟨by omega, by omega⟩
      simp only [wf_4, wf_40, wf_5, wf_50, wf_6, wl_1, wt_1, wu_1, wa_1, wl_4, wt_4, wu_4, wa_4, wl_5, wt_5, wu_5, wa_5, wl_6, wt_6, wu_6, wa_6, wl_9, wt_9, wu_9, wa_9, wl_10, wt_10, wu_10, wa_10, wl_11, wt_11, wu_11, wa_11, wl_13, wt_13, wu_13, wa_13, wl_14, wt_14, wu_14, wa_14, wl_15, wt_15, wu_15, wa_15, wl_16, wt_16, wu_16, wa_16, wl_17, wt_17, wu_17, wa_17, wl_20, wt_20, wu_20, wa_20, wl_21, wt_21, wu_21, wa_21, wl_22, wt_22, wu_22, wa_22, wl_23, wt_23, wu_23, wa_23, wl_24, wt_24, wu_24, wa_24, wl_26, wt_26, wu_26, wa_26, wl_27, wt_27, wu_27, wa_27, wl_28, wt_28, wu_28, wa_28, we_1, we_3, we_10, we_14, we_15, we_16, we_17, we_18, we_20, we_21, we_22, we_24, we_25, we_26, we_27, we_28, we_30, we_31, we_32, wc_20, wc_21, wc_22, wc_24, wc_25, wc_26, wc_27, wc_3, wc_4, wc_7, wc_28, wc_32, ws_1, ws_2, ws_3, ws_4, ws_9, ws_10, ws_11, ws_14, ws_15, ws_16, ws_27, ws_17, ws_20, ws_28, kc_0, kc_1, kn_1, kc_2, kn_2, kc_3, kc_4, kc_5, kc_6, kc_7, kc_8, kc_9, kc_10, kc_12, kc_13, kc_14, kc_16, kc_17, kc_18, kc_19, kc_20, kc_21, kc_22, kc_24, kc_28, kc_30, kc_32, kc_37, kc_40, kc_41, kc_42, kc_43, kc_45, kc_48, kc_56, kc_57, kc_59, kc_60, kc_61, kc_64, kc_73, kc_78, kc_91, kc_95, kc_96, kc_97, kc_98, kc_99, kc_100, kc_112, kc_122, kc_125, kc_126, kc_150, kc_162, kc_163, kc_168, kc_186, kc_190, kc_200, kc_250, kc_255, kc_355, kc_356, kc_404, kc_405, kc_429, kc_573, kc_999, kc_1000, kc_1002, kc_1100, kc_1891, kc_2200, kc_4719, kc_4869, kc_4881, kc_5148, kc_9999, kn_9999, kc_10000, kc_12345, kc_19741, kc_25433, kc_65536, kc_320403, kc_628412, kc_629093, kc_660401, kc_679843, kc_918640, kc_979410, kc_1178088, kc_6232410, kc_24644941, kc_36238189, kc_38270444, kc_392531318, kc_425693491, kc_1103515245, kc_1342154595, kc_2147483648, kc_42328242873, kc_891704255789, kc_1722105685577, kc_1858726030364, ct_0, ct_1, ct_2, ct_3, ct_4, ct_5, cf_0, cf_1, cf_2, cf_3, cf_4, cf_5, w_ty6, w_ty7, m_sv, m_z0, m_hd, m_g0, m_gs, m_s0, m_ss, m_ap, m_an, forall_const, true_and, and_true, ne_eq, not_true_eq_false, not_false_eq_true, false_implies, true_implies, implies_true, eq_self, reduceCtorEq, Nat.reduceDiv, Nat.reduceMod, Int.reduceToNat, or_true, true_or, or_false, false_or, or_self, m_it, m_if, m_c1, m_01, m_02, m_03, m_04, m_10, m_12, m_13, m_14, m_20, m_21, m_23, m_24, m_30, m_31, m_32, m_34, m_40, m_41, m_42, m_43]
      rw [f5_w 182 3 (by decide), sb_w]
      simp only [Int.toNat_natCast]
      obtain ⟨t, z1, -, z3⟩ := c187 h6 (h6 183 j)
      have js : j_iop 1 (j : Int) (k : Int) = (j : Int) - (k : Int) := jsub (by omega) (by omega)
      rw [js]
      refine ⟨fun hj => ⟨⟨by omega, by omega⟩, [t], h6, z1, fun ht => ?_, fun ht => ?_⟩, fun hj => ⟨fun _ => ⟨bm, bm, endT 4 v' j (by decide) (by decide) iv_w (fun z => absurd z (by decide)) (by omega) jS_w⟩, fun _ => ⟨bm, bm, endT 2 v' j (by decide) (by decide) iv_w (fun _ => ⟨v0_w, v9⟩) (by omega) jS_w⟩⟩⟩
      · have j1 : j32 ((j : Int) + 1) = ((j + 1 : Nat) : Int) := (j32_in ⟨by omega, by omega⟩).trans (by omega)
        rw [j1]
        obtain ⟨g0, g1⟩ := z3.mp ht
        have el : j_lop 1 (j_lop 0 (j_lop 2 10 v') (j_un 2 (h6 183 j))) 48 = 10 * v' + h6 183 j - 48 := by
          show j64 (j64 (j64 (10 * v') + h6 183 j) - 48) = _
          rw [j64_in (v := 10 * v') ⟨by omega, by omega⟩, j64_in (v := 10 * v' + h6 183 j) ⟨by omega, by omega⟩, j64_in (v := 10 * v' + h6 183 j - 48) ⟨by omega, by omega⟩]
        rw [el]
        exact ⟨fun hd_w => ⟨⟨by omega, by omega⟩, ⟨j + 1, _, rfl, by omega, by omega, ⟨by omega, by omega, fun _ => by omega, fun _ => by omega, fun _ => by omega, fun _ => by omega⟩, rfl⟩, by omega⟩, fun hd_w => ⟨⟨j + 1, v', rfl, by omega, by omega, ⟨v0_w, v9, fun _ => by omega, fun _ => by omega, fun _ => by omega, fun _ => by omega⟩, rfl⟩, by omega⟩⟩
      · have kj2 : k < j := by
          rcases Nat.lt_or_ge k j with z | z
          · exact z
          · have e : j = k := by omega
            subst e
            have c := f5_w 183 j (by decide)
            rw [← c] at y3
            exact absurd ht (z3.mpr (y3.mp hu2))
        exact ⟨fun _ => ⟨bm, bm, endT 4 v' j (by decide) (by decide) iv_w (fun z => absurd z (by decide)) kj2 jS_w⟩, fun _ => ⟨bm, bm, endT 2 v' j (by decide) (by decide) iv_w (fun _ => ⟨v0_w, v9⟩) kj2 jS_w⟩⟩
    · obtain ⟨t, z1, -⟩ := c189 h5 (H 183 k)
      have iv_w : InL (j_un 2 (H 183 k)) := by
        rw [← f5_w 183 k (by decide)]
        have := ht_int q5_w.1 (q := 183) (by decide) k
        unfold InI at this
        exact ⟨by show _ ≤ h5 183 k; omega, by show h5 183 k < _; omega⟩
      exact ⟨[t], h5, z1, fun _ => ⟨bm, bm, endT 3 _ (k + 1) (by decide) (by decide) iv_w (fun z => absurd z (by decide)) (by omega) (by omega)⟩, fun _ => ⟨bm, bm, endT 4 _ (k + 1) (by decide) (by decide) iv_w (fun z => absurd z (by decide)) (by omega) (by omega)⟩⟩
  · rw [Int.toNat_natCast, up_ne (fun z => absurd z.1 (by decide)), f2_w 182 3 (by decide), sb_w]
    have q3_w := tw_4 q2_w (i := m) (v := 0) (by decide) (by decide)
    have q4_w := tw_5 q3_w (i := m) (v := (S : Int)) (by omega) (by omega)
    have q5_w := (fd_QK q4_w rj_js (k := 7) (v := 0) (Or.inl rfl) (IV.top in_0)).1
    have q6_w := (fd_QK q5_w rj_js (k := 8) (v := 0) (Or.inl rfl) (IV.top in_0)).1
    have e8 : j_up (j_up (j_up (j_up h2 184 m 0) 185 m (S : Int)) 182 7 0) 182 8 0 182 8 = 0 := up_eq
    have e7_w : j_up (j_up (j_up (j_up h2 184 m 0) 185 m (S : Int)) 182 7 0) 182 8 0 182 7 = 0 := (up_ne (fun z => absurd z.2 (by decide))).trans up_eq
    have o : ∀ o i : Nat, (o = 182 → i ≠ 7 ∧ i ≠ 8) → (o = 184 → i ≠ m) → o ≠ 185 → j_up (j_up (j_up (j_up h2 184 m 0) 185 m (S : Int)) 182 7 0) 182 8 0 o i = h2 o i := fun o i z1 z2 z3 => by
      rw [up_ne (fun z => (z1 z.1).2 z.2), up_ne (fun z => (z1 z.1).1 z.2), up_ne (fun z => z3 z.1), up_ne (fun z => z2 z.1 z.2)]
    have e4_w : j_up (j_up (j_up (j_up h2 184 m 0) 185 m (S : Int)) 182 7 0) 182 8 0 184 m = 0 := by
      rw [up_ne (fun z => absurd z.1 (by decide)), up_ne (fun z => absurd z.1 (by decide)), up_ne (fun z => absurd z.1 (by decide)), up_eq]
    have fr : ∀ o' k : Nat, (o' = 182 → k ≠ 2 ∧ k ≠ 3 ∧ k ≠ 7 ∧ k ≠ 8) → (o' ≠ 184 ∧ o' ≠ 185 ∧ o' ≠ 186) → j_up (j_up (j_up (j_up h2 184 m 0) 185 m (S : Int)) 182 7 0) 182 8 0 o' k = h o' k := fun o' k z1 z2 => (o o' k (fun z => (z1 z).2.2) (fun z => absurd z z2.1) z2.2.1).trans ((f2_w o' k z2).trans (fb o' k z1))
    have e12_w := fr 182 12 (fun _ => by decide) (by decide)
    refine ⟨⟨by omega, by omega⟩, ⟨by omega, by omega⟩, rfl, m, ⟨q6_w, ⟨by omega, by omega, by omega, by omega, e4_w, by omega, by omega, fun i hi_w hs => ?_⟩, ?_⟩, e7_w, fr⟩
    · rw [o 184 i (fun z => absurd z (by decide)) (fun _ => by omega) (by decide)] at hs
      rw [o 186 i (fun z => absurd z (by decide)) (fun z => absurd z (by decide)) (by decide)]
      exact v2 i hi_w hs
    · exact DG.up hQ hD (fr 188 96 (fun z => absurd z (by decide)) (by decide)) (fr 188 98 (fun z => absurd z (by decide)) (by decide)) (fun i _ => fr 188 _ (fun z => absurd z (by decide)) (by decide)) (fun i _ => fr 188 _ (fun z => absurd z (by decide)) (by decide))
end PARO
