/-! ===== the reference's parser: what is_w emitted ===== -/
/-- what an E may_w write_w: codes_w behind_w those that are there_w -/
def PX (N : Nat) (h h' : XH) : Prop := (∀ o k : Nat, (o = 182 → k ≠ 7 ∧ k ≠ 8 ∧ k ≠ 12) → (o = 189 → (k : Int) < 1100 + h 182 12) → h' o k = h o k) ∧ 0 ≤ h' 182 8 ∧ InI (h' 182 8) ∧ (h 182 8 ≠ 0 → h' 182 8 = h 182 8) ∧ h 182 7 ≤ h' 182 7 ∧ h' 182 7 ≤ (N : Int) ∧ h 182 12 ≤ h' 182 12 ∧ h' 182 12 - h 182 12 ≤ h' 182 7 - h 182 7
/-- what was emitted puts one number_w on_w the pile, and needs so many_w places_w -/
def EX (b : Nat) (h h' : XH) : Prop := h' 182 8 = 0 → ∃ l : List Int, Seg (h' 189) (1100 + (h 182 12).toNat) l ∧ h' 182 12 = h 182 12 + l.length ∧ ∀ t, t + b ≤ 63 → htO t l = some (t + 1)
section PAR5
variable {P : Int × Int} {N : Nat} {g : Nat × Nat} {xs : Nat → Int} {L K n : Nat} {ck : Nat → List Nat} {cW : Nat → Nat → Int} {h h' h2 : XH}
theorem CodeOK.up {f f' : Nat → Int} {a : Nat} (hf : ∀ k, k < 1100 → f' k = f k) (hc_w : CodeOK f a) : CodeOK f' a := by
  obtain ⟨l, s1_w, s2_w, s3_w, s4_w⟩ := hc_w
  exact ⟨l, fun k hk => (hf _ (by omega)).trans (s1_w k hk), (hf _ (by omega)).trans s2_w, s3_w, s4_w⟩
theorem htO_app : ∀ {l m : List Int} {t u : Nat}, htO t l = some u → htO t (l ++ m) = htO u m
  | [], m, t, u, h => by cases h; rfl
  | x :: l, m, t, u, h => by
    rw [List.cons_append]
    unfold htO at h
    conv => lhs; unfold htO
    split at h
    · rename_i c1_w
      obtain ⟨c2, h⟩ := j_ifx h
      rw [if_pos c1_w, if_pos c2]
      exact htO_app h
    · rename_i c1_w
      rw [if_neg c1_w]
      split at h
      · rename_i c1_w
        obtain ⟨c2, h⟩ := j_ifx h
        rw [if_pos c1_w, if_pos c2]
        exact htO_app h
      · rename_i c1_w
        rw [if_neg c1_w]
        split at h
        · rename_i c1_w
          obtain ⟨c2, h⟩ := j_ifx h
          rw [if_pos c1_w, if_pos c2]
          exact htO_app h
        · rename_i c1_w
          rw [if_neg c1_w]
          split at h
          · rename_i c1_w
            obtain ⟨c2, h⟩ := j_ifx h
            rw [if_pos c1_w, if_pos c2]
            exact htO_app h
          · cases h
theorem Seg.app {f : Nat → Int} {a : Nat} {l m : List Int} (hl : Seg f a l) (hm_w : Seg f (a + l.length) m) : Seg f a (l ++ m) := fun k hk => by
  rw [List.getD_eq_getElem?_getD]
  by_cases e : k < l.length
  · rw [List.getElem?_append_left e, ← List.getD_eq_getElem?_getD]
    exact hl k e
  · rw [List.getElem?_append_right (by omega), ← List.getD_eq_getElem?_getD]
    have := hm_w (k - l.length) (by rw [List.length_append] at hk; omega)
    rw [← this]
    congr 1
    omega
/-- a code is_w emitted -/
def emt (h : XH) (x : Int) : XH := j_up (j_up h 189 (1100 + (h 182 12).toNat) x) 182 12 (h 182 12 + 1)
theorem emt_QK (hQ : QK P (r_T 0) (RJ P) h) {x : Int} (hx : InI x) (hc_w : 0 ≤ h 182 12 ∧ h 182 12 ≤ 1001) : QK P (r_T 0) (RJ P) (emt h x) := by
  have hH : HT g_fk a_g3 (j_up h 189 (1100 + (h 182 12).toNat) x) := ht_up hQ.1 (by decide) hx
  have hr : (r_A 189).2.2.all (fun r => i_sub iT r.2.2) = true := by decide +kernel
  have q1_w : QK P (r_T 0) (RJ P) (j_up h 189 (1100 + (h 182 12).toNat) x) := by
    refine ⟨hH, fun k => ?_, fun q' hq' => ?_, ?_⟩
    · rw [up_ne (fun z => absurd z.1 (by decide))]
      exact hQ.2.1 k
    · by_cases e : q' = 189
      · subst e
        intro r hr' a b k1_w k2 k3
        by_cases e2_w : (qA (r_T 0) 189).2.1 * b + a = 1100 + (h 182 12).toNat
        · rw [e2_w, up_eq]
          exact IV.sub (List.all_eq_true.mp hr r hr') (IV.top hx)
        · rw [up_ne (fun z => e2_w z.2)]
          exact hQ.2.2.1 189 hq' r hr' a b k1_w k2 k3
      · have e2_w : j_up h 189 (1100 + (h 182 12).toNat) x q' = h q' := funext fun i => up_ne (fun z => e z.1)
        rw [e2_w]
        exact hQ.2.2.1 q' hq'
    · have e1_w : j_up h 189 (1100 + (h 182 12).toNat) x 188 = h 188 := funext fun i => up_ne (fun z => absurd z.1 (by decide))
      have e2_w : j_up h 189 (1100 + (h 182 12).toNat) x 191 = h 191 := funext fun i => up_ne (fun z => absurd z.1 (by decide))
      obtain ⟨j1, j2_w, j3_w⟩ := hQ.2.2.2
      refine ⟨by rw [e1_w]; exact j1, fun z => ?_, by rw [e2_w]; exact j3_w⟩
      rw [e1_w] at z ⊢
      exact (j2_w z).up (fun k hk => up_ne (fun z => by have := z.2; omega))
  have q2_w := (fd_QK q1_w rj_js (k := 12) (v := h 182 12 + 1) (Or.inl rfl) (IV.top ⟨by omega, by omega⟩)).1
  exact q2_w
theorem emt_8 {x : Int} : emt h x 182 8 = h 182 8 := by
  unfold emt
  rw [up_ne (fun z => absurd z.2 (by decide)), up_ne (fun z => absurd z.1 (by decide))]
theorem emt_7 {x : Int} : emt h x 182 7 = h 182 7 := by
  unfold emt
  rw [up_ne (fun z => absurd z.2 (by decide)), up_ne (fun z => absurd z.1 (by decide))]
theorem emt_12 {x : Int} : emt h x 182 12 = h 182 12 + 1 := up_eq
theorem emt_ob {x : Int} {o k : Nat} (h1 : o = 182 → k ≠ 12) (h2 : o = 189 → k ≠ 1100 + (h 182 12).toNat) : emt h x o k = h o k := by
  unfold emt
  rw [up_ne (fun z => h1 z.1 z.2), up_ne (fun z => h2 z.1 z.2)]
theorem PX.tr (a : PX N h h') (b : PX N h' h2) (hc_w : 0 ≤ h 182 12) : PX N h h2 := by
  obtain ⟨a1_w, a2, a3, a4, a5, a6, a7, a8⟩ := a
  obtain ⟨b1, b2, b3, b4, b5, b6, b7, b8⟩ := b
  exact ⟨fun o k e e2_w => (b1 o k e (fun z => by have := e2_w z; omega)).trans (a1_w o k e e2_w), b2, b3, fun e => by rw [b4 (by rw [a4 e]; exact e), a4 e], by omega, b6, by omega, by omega⟩
theorem PA.px (hp : PK P N h) (a : PA N h h') : PX N h h' := by
  obtain ⟨a1_w, a2, a3, a4, a5, a6⟩ := a
  have e := a1_w 182 12 (fun _ => by decide)
  exact ⟨fun o k e _ => a1_w o k (fun z => ⟨(e z).1, (e z).2.1⟩), a2, a3, a4, a5, a6, by omega, by omega⟩
theorem px_e (hp : PK P N h) (a : PX N h h') (hQ : QK P (r_T 0) (RJ P) h') (hc_w : h 182 12 ≤ h 182 7) : PK P N h' := by
  obtain ⟨a1_w, a2, a3, a4, a5, a6, a7, a8⟩ := a
  obtain ⟨q, ⟨p1_w, p2_w, p3_w, p4_w, p5_w, p6_w, p7_w, p8_w⟩, d⟩ := hp
  have e : ∀ q : Nat, q ≠ 182 → q ≠ 189 → h' q = h q := fun q h1 h2 => funext fun k => a1_w q k (fun z => absurd z h1) (fun z => absurd z h2)
  refine ⟨hQ, ⟨a2, by omega, a6, p4_w, ?_, by omega, by omega, fun i hi_w hs => ?_⟩, ?_⟩
  · rw [e 184 (by decide) (by decide)]
    exact p5_w
  · rw [e 184 (by decide) (by decide)] at hs
    rw [e 186 (by decide) (by decide)]
    exact p8_w i hi_w hs
  · unfold DG
    rw [e 188 (by decide) (by decide)]
    exact d
/-- two that are joined by what is_w emitted behind_w them -/
theorem EX.join {h3 : XH} {b1 b2 b : Nat} {x : Int} (hc_w : 0 ≤ h 182 12) (a1_w : EX b1 h h') (a2 : EX b2 h' h2) (px : PX N h' h2) (ph_w : h' 182 8 ≠ 0 → h2 182 8 ≠ 0) (h12 : h 182 12 ≤ h' 182 12) (h3e : h3 = emt h2 x) (hx : 4 ≤ x % 16 ∧ 0 ≤ x ∧ x % 16 ≠ 1 ∧ x % 16 ≠ 2 ∧ x % 16 ≠ 3) (hb1 : b1 ≤ b) (hb2 : b2 + 1 ≤ b) (hb3 : 1 ≤ b) : EX b h h3 := by
  intro h0
  subst h3e
  rw [emt_8] at h0
  obtain ⟨l2, s2_w, n2_w, t2_w⟩ := a2 h0
  obtain ⟨l1, s1_w, n1_w, t1_w⟩ := a1_w (Decidable.byContradiction fun z => ph_w z h0)
  have hn : (h 182 12).toNat + l1.length = (h' 182 12).toNat := by omega
  have hn2 : (h' 182 12).toNat + l2.length = (h2 182 12).toNat := by omega
  refine ⟨l1 ++ (l2 ++ [x]), Seg.app (fun k hk => ?_) (Seg.app (fun k hk => ?_) (fun k hk => ?_)), ?_, fun t ht => ?_⟩
  · rw [emt_ob (fun z => absurd z (by decide)) (fun _ => by omega), px.1 189 _ (fun z => absurd z (by decide)) (fun _ => by omega)]
    exact s1_w k hk
  · rw [emt_ob (fun z => absurd z (by decide)) (fun _ => by omega), show 1100 + (h 182 12).toNat + l1.length + k = 1100 + (h' 182 12).toNat + k by omega]
    exact s2_w k hk
  · have hk0 : k = 0 := by simpa using hk
    subst hk0
    rw [show 1100 + (h 182 12).toNat + l1.length + l2.length + 0 = 1100 + (h2 182 12).toNat by omega]
    unfold emt
    rw [up_ne (fun z => absurd z.1 (by decide)), up_eq]
    rfl
  · rw [emt_12, List.length_append, List.length_append]
    simp only [List.length_cons, List.length_nil]
    omega
  · rw [htO_app (t1_w t (by omega)), htO_app (t2_w (t + 1) (by omega))]
    unfold htO
    rw [if_neg (fun z => hx.2.2.1 z.1), if_neg (fun z => hx.2.2.2.1 z.1), if_neg (fun z => hx.2.2.2.2 z.1), if_pos ⟨hx.1, hx.2.1⟩, if_pos (by omega)]
    rfl
def G216 (P : Int × Int) (N : Nat) (g : Nat × Nat) (F : XP) : Prop := ∀ (h : XH) (c a : Int), 0 ≤ h 182 12 → h 182 12 ≤ 1001 → 0 ≤ c → c ≤ 15 → 0 ≤ a → a ≤ 9999 → F 216 [182, c, a] ((a_g3, g), h) = some (1, [], ((a_g3, g), emt h (c + 16 * a)))
theorem g_216 : G216 P N g (evF xs L ck K cW g_M (n + 1)) := fun h c a h0 h1 c0 c1_w a0_w a1_w => by
  suffices hs : ∃ r h', evF xs L ck K cW g_M (n + 1) 216 [182, c, a] ((a_g3, g), h) = some (1, r, ((a_g3, g), h')) ∧ r = [] ∧ h' = emt h (c + 16 * a) by
    obtain ⟨r, h', e1_w, rfl, rfl⟩ := hs
    exact e1_w
  refine tr_of gm_216 (B := fun r h' => r = [] ∧ h' = emt h (c + 16 * a)) ?_
  show wS _ _ K bb_216 [182, c, a] h _
  generalize evF xs L ck K cW g_M n = F
  unfold bb_216
  simp only [wf_4, wf_40, wf_5, wf_50, wf_6, wl_1, wt_1, wu_1, wa_1, wl_4, wt_4, wu_4, wa_4, wl_5, wt_5, wu_5, wa_5, wl_6, wt_6, wu_6, wa_6, wl_9, wt_9, wu_9, wa_9, wl_10, wt_10, wu_10, wa_10, wl_11, wt_11, wu_11, wa_11, wl_13, wt_13, wu_13, wa_13, wl_14, wt_14, wu_14, wa_14, wl_15, wt_15, wu_15, wa_15, wl_16, wt_16, wu_16, wa_16, wl_17, wt_17, wu_17, wa_17, wl_20, wt_20, wu_20, wa_20, wl_21, wt_21, wu_21, wa_21, wl_22, wt_22, wu_22, wa_22, wl_23, wt_23, wu_23, wa_23, wl_24, wt_24, wu_24, wa_24, wl_26, wt_26, wu_26, wa_26, wl_27, wt_27, wu_27, wa_27, wl_28, wt_28, wu_28, wa_28, we_1, we_3, we_10, we_14, we_15, we_16, we_17, we_18, we_20, we_21, we_22, we_24, we_25, we_26, we_27, we_28, we_30, we_31, we_32, wc_20, wc_21, wc_22, wc_24, wc_25, wc_26, wc_27, wc_3, wc_4, wc_7, wc_28, wc_32, ws_1, ws_2, ws_3, ws_4, ws_9, ws_10, ws_11, ws_14, ws_15, ws_16, ws_27, ws_17, ws_20, ws_28, kc_0, kc_1, kn_1, kc_2, kn_2, kc_3, kc_4, kc_5, kc_6, kc_7, kc_8, kc_9, kc_10, kc_12, kc_13, kc_14, kc_16, kc_17, kc_18, kc_19, kc_20, kc_21, kc_22, kc_24, kc_28, kc_30, kc_32, kc_37, kc_40, kc_41, kc_42, kc_43, kc_45, kc_48, kc_56, kc_57, kc_59, kc_60, kc_61, kc_64, kc_73, kc_78, kc_91, kc_95, kc_96, kc_97, kc_98, kc_99, kc_100, kc_112, kc_122, kc_125, kc_126, kc_150, kc_162, kc_163, kc_168, kc_186, kc_190, kc_200, kc_250, kc_255, kc_355, kc_356, kc_404, kc_405, kc_429, kc_573, kc_999, kc_1000, kc_1002, kc_1100, kc_1891, kc_2200, kc_4719, kc_4869, kc_4881, kc_5148, kc_9999, kn_9999, kc_10000, kc_12345, kc_19741, kc_25433, kc_65536, kc_320403, kc_628412, kc_629093, kc_660401, kc_679843, kc_918640, kc_979410, kc_1178088, kc_6232410, kc_24644941, kc_36238189, kc_38270444, kc_392531318, kc_425693491, kc_1103515245, kc_1342154595, kc_2147483648, kc_42328242873, kc_891704255789, kc_1722105685577, kc_1858726030364, ct_0, ct_1, ct_2, ct_3, ct_4, ct_5, cf_0, cf_1, cf_2, cf_3, cf_4, cf_5, w_ty6, w_ty7, m_sv, m_z0, m_hd, m_g0, m_gs, m_s0, m_ss, m_ap, m_an, forall_const, true_and, and_true, ne_eq, not_true_eq_false, not_false_eq_true, false_implies, true_implies, implies_true, eq_self, reduceCtorEq, Nat.reduceDiv, Nat.reduceMod, Int.reduceToNat, or_true, true_or, or_false, false_or, or_self, m_it, m_if, m_c1, m_01, m_02, m_03, m_04, m_10, m_12, m_13, m_14, m_20, m_21, m_23, m_24, m_30, m_31, m_32, m_34, m_40, m_41, m_42, m_43]
  rw [jmul (x := 16) (y := a) (by omega) (by omega), jadd (x := c) (by omega) (by omega), jadd (x := 1100) (by omega) (by omega)]
  have e1_w : (1100 + h 182 12).toNat = 1100 + (h 182 12).toNat := by omega
  rw [e1_w, up_ne (fun z => absurd z.1 (by decide)), jadd (x := h 182 12) (by omega) (by omega)]
  exact ⟨⟨by omega, by omega⟩, rfl⟩
end PAR5
