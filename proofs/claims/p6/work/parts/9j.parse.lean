/-! ===== the reference's parser: a part of an E ===== -/
def tl_221 : SX := (sx 2 (sx 10 (sx 21 (sx 4 (sx 3 z0 z0 z0) (sv 8) z0) z0 (sv 4)) (sx 20 (sx 17 z0 z0 z0) z0 z0) z0) (sx 11 (sx 24 (sx 32 (sx 30 (sx 3 z0 z0 z0) (sx 30 (sx 1 (sv 17) (sv 1) z0) (sx 31 z0 z0 z0) z0) z0) (sv 196) z0) z0 z0) (sx 20 (sx 2 (sx 9 (sx 32 (sx 30 (sx 3 z0 z0 z0) (sx 30 (sx 14 (sx 3 (sv 1) z0 z0) (sx 1 (sv 1) (sv 1) z0) z0) (sx 31 z0 z0 z0) z0) z0) (sv 221) z0) z0 z0) (sx 9 (sx 32 (sx 30 (sx 3 z0 z0 z0) (sx 30 (sx 1 (sv 3) (sv 1) z0) (sx 30 (sx 1 z0 (sv 1) z0) (sx 31 z0 z0 z0) z0) z0) z0) (sv 216) z0) z0 z0) z0) z0 z0) (sx 11 (sx 24 (sx 32 (sx 30 (sx 3 z0 z0 z0) (sx 30 (sx 1 (sv 40) (sv 1) z0) (sx 31 z0 z0 z0) z0) z0) (sv 195) z0) z0 z0) (sx 20 (sx 2 (sx 9 (sx 32 (sx 30 (sx 3 z0 z0 z0) (sx 30 (sx 14 (sx 3 (sv 1) z0 z0) (sx 1 (sv 1) (sv 1) z0) z0) (sx 31 z0 z0 z0) z0) z0) (sv 217) z0) z0 z0) (sx 9 (sx 32 (sx 30 (sx 3 z0 z0 z0) (sx 30 (sx 1 (sv 41) (sv 1) z0) (sx 31 z0 z0 z0) z0) z0) (sv 194) z0) z0 z0) z0) z0 z0) (sx 20 (sx 2 (sx 9 (sx 32 (sx 30 (sx 3 z0 z0 z0) (sx 30 (sx 28 (sx 24 (sx 3 (sv 2) z0 z0) z0 z0) (sx 1 (sv 1) (sv 1) z0) (sx 1 (sv 2) (sv 1) z0)) (sx 30 (sx 28 (sx 24 (sx 3 (sv 2) z0 z0) z0 z0) (sx 18 (sx 7 (sx 5 (sx 3 z0 z0 z0) (sv 6) z0) (sx 4 (sx 3 z0 z0 z0) (sv 7) z0) z0) z0 (sv 3)) (sx 3 (sv 3) z0 z0)) (sx 31 z0 z0 z0) z0) z0) z0) (sv 216) z0) z0 z0) (sx 6 (sx 3 z0 z0 z0) (sx 1 (sv 1) (sv 1) z0) (sv 112)) z0) z0 z0))) z0)
section PAR7
variable {P : Int × Int} {N : Nat} {g : Nat × Nat} {xs : Nat → Int} {L K n : Nat} {ck : Nat → List Nat} {cW : Nat → Nat → Int} {h h1 h2 : XH} {F : XP}
theorem ex_snoc {b : Nat} {x : Int} (c0 : 0 ≤ h 182 12) (h12 : h 182 12 ≤ h2 182 12) (e : EX b h h2) (hx : ∀ t : Nat, t + b ≤ 63 → htO (t + 1) [x] = some (t + 1)) : EX b h (emt h2 x) := by
  intro h0
  rw [emt_8] at h0
  obtain ⟨l, s, n1_w, t1_w⟩ := e h0
  have hn : (h 182 12).toNat + l.length = (h2 182 12).toNat := by omega
  refine ⟨l ++ [x], Seg.app (fun k hk => ?_) (fun k hk => ?_), ?_, fun t ht => ?_⟩
  · rw [emt_ob (fun z => absurd z (by decide)) (fun _ => by omega)]
    exact s k hk
  · have hk0 : k = 0 := by simpa using hk
    subst hk0
    rw [show 1100 + (h 182 12).toNat + l.length + 0 = 1100 + (h2 182 12).toNat by omega]
    unfold emt
    rw [up_ne (fun z => absurd z.1 (by decide)), up_eq]
    rfl
  · rw [emt_12, List.length_append]
    simp only [List.length_cons, List.length_nil]
    omega
  · rw [htO_app (t1_w t ht)]
    exact hx t ht
theorem ex_one {x : Int} (c0 : 0 ≤ h 182 12) (hx : ∀ t : Nat, t + 1 ≤ 63 → htO t [x] = some (t + 1)) : EX 1 h (emt h x) := by
  intro h0
  refine ⟨[x], fun k hk => ?_, by rw [emt_12]; rfl, hx⟩
  have hk0 : k = 0 := by simpa using hk
  subst hk0
  unfold emt
  rw [up_ne (fun z => absurd z.1 (by decide)), Nat.add_zero, up_eq]
  rfl
theorem ex_atp2 {b : Nat} (e : EX b h h2) : EX b h (atp h2) := fun h0 => by
  obtain ⟨l, s, n1_w, t1_w⟩ := e (atp_8.symm.trans h0)
  refine ⟨l, fun k hk => ?_, ?_, t1_w⟩
  · unfold atp
    rw [up_ne (fun z => absurd z.1 (by decide))]
    exact s k hk
  · unfold atp
    rw [up_ne (fun z => absurd z.2 (by decide))]
    exact n1_w
theorem ex_pa {b : Nat} (e : EX b h h1) (a : PA N h1 h2) : EX b h h2 := fun h0 => by
  obtain ⟨l, s, n1_w, t1_w⟩ := e (Decidable.byContradiction fun z => absurd h0 (by rw [a.2.2.2.1 z]; exact z))
  refine ⟨l, fun k hk => ?_, ?_, t1_w⟩
  · rw [a.1 189 _ (fun z => absurd z (by decide))]
    exact s k hk
  · rw [a.1 182 12 (fun _ => by decide)]
    exact n1_w
theorem htO_3 {b : Nat} : ∀ t : Nat, t + b ≤ 63 → htO (t + 1) [3] = some (t + 1) := fun t _ => by
  unfold htO
  rw [if_neg (by decide), if_neg (by decide), if_pos (by decide), if_pos (by omega)]
  rfl
theorem htO_n {v : Int} (hv : 0 ≤ v) : ∀ t : Nat, t + 1 ≤ 63 → htO t [1 + 16 * v] = some (t + 1) := fun t _ => by
  unfold htO
  rw [if_pos ⟨by omega, by omega⟩, if_pos (by omega)]
  rfl
theorem htO_f {v : Int} (hv : 0 ≤ v) (h4 : v < 4) : ∀ t : Nat, t + 1 ≤ 63 → htO t [2 + 16 * v] = some (t + 1) := fun t _ => by
  unfold htO
  rw [if_neg (fun z => by omega), if_pos ⟨by omega, by omega, by omega⟩, if_pos (by omega)]
  rfl
/-- a number_w or_w a fact is_w emitted, and one goes_w on_w -/
theorem one_E (hp : PK P N h) (hc_w : h 182 12 ≤ h 182 7) (ht : h 184 (h 182 7).toNat ≠ 0) {x : Int} (x0_w : InI x) (hx : ∀ t : Nat, t + 1 ≤ 63 → htO t [x] = some (t + 1)) : QK P (r_T 0) (RJ P) (atp (emt h x)) ∧ PX N h (atp (emt h x)) ∧ EX 1 h (atp (emt h x)) := by
  have pn := PA.next hp ht
  obtain ⟨b1, b2, b3, b4, b5, b6⟩ := pn
  obtain ⟨q, ⟨t1_w, t2_w, t3_w, t4_w, t5_w, t6, t7, t8⟩, _⟩ := hp
  have e7_w : atp (emt h x) 182 7 = h 182 7 + 1 := by
    unfold atp
    rw [up_eq, emt_7]
  have e12_w : atp (emt h x) 182 12 = h 182 12 + 1 := by
    unfold atp
    rw [up_ne (fun z => absurd z.2 (by decide)), emt_12]
  have e8 : atp (emt h x) 182 8 = h 182 8 := atp_8.trans emt_8
  rw [up_eq] at b6
  have q1_w := emt_QK q x0_w ⟨t6, by omega⟩
  refine ⟨fld78 (a := 0) (f := 0) (Or.inl rfl) q1_w (by rw [emt_7]; exact ⟨by omega, by omega⟩), ⟨fun o k k1_w k2 => ?_, ?_, ?_, fun _ => e8, ?_, ?_, ?_, ?_⟩, ex_atp2 (ex_one t6 hx)⟩
  · unfold atp
    rw [up_ne (fun z => (k1_w z.1).1 z.2), emt_ob (fun z => (k1_w z).2.2) (fun z => by have := k2 z; omega)]
  · rw [e8]
    exact t1_w
  · rw [e8]
    exact ht_fld q rfl
  · rw [e7_w]
    omega
  · rw [e7_w]
    exact b6
  · rw [e12_w]
    omega
  · rw [e12_w, e7_w]
    omega
def N221 (h : XH) (a num fact : Int) : Prop := h 182 8 = 0 → a < 5 ∧ ((num = 1 ∧ h 184 (h 182 7).toNat = 2) ∨ (num = 0 ∧ ((0 ≤ fact ∧ fact < 4 ∧ ∃ w, tkW h w) ∨ tkS h 40 ∨ tkW h 17)))
theorem t_221 {b : Nat} {a num fact : Int} {R : Nat → List Int → List Int → XH → Prop} (c194 : G194 P N g F) (c195 : G195 P N g F) (c196 : G196 P N g F) (c216 : G216 P N g F) (ce1 : a < 5 → GE 221 b (a + 1) P N g F) (ce2 : a < 5 → GE 217 b (a + 1) P N g F) (hb_w : 1 ≤ b) (a0_w : 0 ≤ a) (hp : PK P N h) (hc_w : h 182 12 ≤ h 182 7) (hn : N221 h a num fact) (hR : ∀ k en h', (k = 0 ∨ k = 1) → QK P (r_T 0) (RJ P) h' → PX N h h' → EX b h h' → R k [] en h') : wS (a_g3, g) F K tl_221 [182, a, num, fact] h R := by
  unfold tl_221
  simp only [wf_4, wf_40, wf_5, wf_50, wf_6, wl_1, wt_1, wu_1, wa_1, wl_4, wt_4, wu_4, wa_4, wl_5, wt_5, wu_5, wa_5, wl_6, wt_6, wu_6, wa_6, wl_9, wt_9, wu_9, wa_9, wl_10, wt_10, wu_10, wa_10, wl_11, wt_11, wu_11, wa_11, wl_13, wt_13, wu_13, wa_13, wl_14, wt_14, wu_14, wa_14, wl_15, wt_15, wu_15, wa_15, wl_16, wt_16, wu_16, wa_16, wl_17, wt_17, wu_17, wa_17, wl_20, wt_20, wu_20, wa_20, wl_21, wt_21, wu_21, wa_21, wl_22, wt_22, wu_22, wa_22, wl_23, wt_23, wu_23, wa_23, wl_24, wt_24, wu_24, wa_24, wl_26, wt_26, wu_26, wa_26, wl_27, wt_27, wu_27, wa_27, wl_28, wt_28, wu_28, wa_28, we_1, we_3, we_10, we_14, we_15, we_16, we_17, we_18, we_20, we_21, we_22, we_24, we_25, we_26, we_27, we_28, we_30, we_31, we_32, wc_20, wc_21, wc_22, wc_24, wc_25, wc_26, wc_27, wc_3, wc_4, wc_7, wc_28, wc_32, ws_1, ws_2, ws_3, ws_4, ws_9, ws_10, ws_11, ws_14, ws_15, ws_16, ws_27, ws_17, ws_20, ws_28, kc_0, kc_1, kn_1, kc_2, kn_2, kc_3, kc_4, kc_5, kc_6, kc_7, kc_8, kc_9, kc_10, kc_12, kc_13, kc_14, kc_16, kc_17, kc_18, kc_19, kc_20, kc_21, kc_22, kc_24, kc_28, kc_30, kc_32, kc_37, kc_40, kc_41, kc_42, kc_43, kc_45, kc_48, kc_56, kc_57, kc_59, kc_60, kc_61, kc_64, kc_73, kc_78, kc_91, kc_95, kc_96, kc_97, kc_98, kc_99, kc_100, kc_112, kc_122, kc_125, kc_126, kc_150, kc_162, kc_163, kc_168, kc_186, kc_190, kc_200, kc_250, kc_255, kc_355, kc_356, kc_404, kc_405, kc_429, kc_573, kc_999, kc_1000, kc_1002, kc_1100, kc_1891, kc_2200, kc_4719, kc_4869, kc_4881, kc_5148, kc_9999, kn_9999, kc_10000, kc_12345, kc_19741, kc_25433, kc_65536, kc_320403, kc_628412, kc_629093, kc_660401, kc_679843, kc_918640, kc_979410, kc_1178088, kc_6232410, kc_24644941, kc_36238189, kc_38270444, kc_392531318, kc_425693491, kc_1103515245, kc_1342154595, kc_2147483648, kc_42328242873, kc_891704255789, kc_1722105685577, kc_1858726030364, ct_0, ct_1, ct_2, ct_3, ct_4, ct_5, cf_0, cf_1, cf_2, cf_3, cf_4, cf_5, w_ty6, w_ty7, m_sv, m_z0, m_hd, m_g0, m_gs, m_s0, m_ss, m_ap, m_an, forall_const, true_and, and_true, ne_eq, not_true_eq_false, not_false_eq_true, false_implies, true_implies, implies_true, eq_self, reduceCtorEq, Nat.reduceDiv, Nat.reduceMod, Int.reduceToNat, or_true, true_or, or_false, false_or, or_self, m_it, m_if, m_c1, m_01, m_02, m_03, m_04, m_10, m_12, m_13, m_14, m_20, m_21, m_23, m_24, m_30, m_31, m_32, m_34, m_40, m_41, m_42, m_43]
  have pq_w := hp
  obtain ⟨q, ⟨t1_w, t2_w, t3_w, t4_w, t5_w, t6, t7, t8⟩, _⟩ := pq_w
  have px0 : PX N h h := PA.px hp (PA.rf hp)
  have ba_w : 0 ≤ h 182 7 ∧ h 182 7 < 1002 := ⟨t2_w, by omega⟩
  refine ⟨fun k => hR 1 _ h (Or.inr rfl) q px0 (fun z => by omega), fun k => ?_⟩
  have k0_w : h 182 8 = 0 := by omega
  obtain ⟨a5, hn⟩ := hn k0_w
  have e12_w : atp h 182 12 = h 182 12 := up_ne (fun z => absurd z.2 (by decide))
  have e7_w : atp h 182 7 = h 182 7 + 1 := up_eq
  obtain ⟨v, h1, d1_w, d2_w, d3_w, d4_w⟩ := c196 h 17 hp (by decide) (by decide)
  rw [jadd (x := a) (y := 1) (by omega) (by omega)]
  refine ⟨[v], h1, d1_w, fun kv => ?_, fun kv => ?_⟩
  · obtain ⟨t, rfl⟩ := d3_w kv
    have tt : h 184 (h 182 7).toNat ≠ 0 := by rw [t.2.1]; decide
    obtain ⟨h2, f1_w, q2_w, p2_w, x2_w⟩ := ce1 a5 (atp h) (hp.pa (PA.next hp tt)) (by rw [e12_w, e7_w]; omega)
    obtain ⟨s1_w, s2_w, s3_w⟩ := stepE hp hc_w tt p2_w q2_w (x := 3) ⟨by decide, by decide⟩
    have b6 := p2_w.2.2.2.2.2.1
    have b7 := p2_w.2.2.2.2.2.2.1
    have b8 := p2_w.2.2.2.2.2.2.2
    rw [e12_w] at b7 b8
    rw [e7_w] at b8
    have k := c216 h2 3 0 (by omega) (by omega) (by decide) (by decide) (by decide) (by decide)
    rw [Int.mul_zero, Int.add_zero] at k
    exact ⟨[], h2, f1_w, [], _, k, hR 0 _ _ (Or.inl rfl) s1_w s2_w (ex_snoc t6 b7 (ex_atp x2_w) htO_3)⟩
  · rw [(d4_w kv).2]
    obtain ⟨w, h3, m1_w, m2_w, m3_w, m4_w⟩ := c195 h 40 hp ⟨by decide, by decide⟩
    refine ⟨[w], h3, m1_w, fun kw => ?_, fun kw => ?_⟩
    · obtain ⟨t, rfl⟩ := m3_w kw
      have tt : h 184 (h 182 7).toNat ≠ 0 := by rw [t.2.1]; decide
      have pn := PA.next hp tt
      have hpa : PK P N (atp h) := hp.pa pn
      have hca : atp h 182 12 ≤ atp h 182 7 := by rw [e12_w, e7_w]; omega
      obtain ⟨h2, f1_w, q2_w, p2_w, x2_w⟩ := ce2 a5 (atp h) hpa hca
      have hp2 := px_e hpa p2_w q2_w hca
      obtain ⟨h4, y1, y2, -⟩ := c194 h2 41 hp2 ⟨by decide, by decide⟩
      exact ⟨[], h2, f1_w, [], h4, y1, hR 0 _ _ (Or.inl rfl) (hp2.pa y2).1 ((PA.px hp pn).tr (p2_w.tr (PA.px hp2 y2) (by rw [e12_w]; exact t6)) t6) (ex_pa (ex_atp x2_w) y2)⟩
    · rw [(m4_w kw).2]
      have nt := (d4_w kv).1
      have np := (m4_w kw).1
      rcases hn with ⟨rfl, hs⟩ | ⟨rfl, hm_w⟩
      · refine ⟨fun _ => ⟨fun _ => ⟨ba_w, ?_⟩, fun z => absurd z (by decide)⟩, fun z => absurd z (by decide)⟩
        have hN_w : (h 182 7).toNat < N := by
          rcases Nat.lt_or_ge (h 182 7).toNat N with z | z
          · exact z
          · have z2 : (h 182 7).toNat = N := by omega
            rw [z2, t5_w] at hs
            exact absurd hs (by decide)
        obtain ⟨v0_w, v1_w⟩ := t8 _ hN_w hs
        rw [show j_un 3 (h 186 (h 182 7).toNat) = h 186 (h 182 7).toNat from j32_in ⟨by omega, by omega⟩]
        obtain ⟨z1, z2, z3⟩ := one_E hp hc_w (by rw [hs]; decide) (x := 1 + 16 * h 186 (h 182 7).toNat) ⟨by omega, by omega⟩ (htO_n v0_w)
        refine ⟨[], _, c216 h 1 _ t6 (by omega) (by decide) (by decide) v0_w v1_w, ?_⟩
        rw [show j_iop 0 (emt h (1 + 16 * h 186 (h 182 7).toNat) 182 7) 1 = emt h (1 + 16 * h 186 (h 182 7).toNat) 182 7 + 1 by rw [emt_7]; exact jat hp]
        exact hR 0 _ _ (Or.inl rfl) z1 z2 (z3.mono hb_w)
      · refine ⟨fun z => absurd rfl z, fun _ => ⟨fun z => absurd rfl z, fun _ => ?_⟩⟩
        rcases hm_w with ⟨f0_w, f1_w, w2_w, tw⟩ | z | z
        · obtain ⟨z1, z2, z3⟩ := one_E hp hc_w (by rw [tw.2.1]; decide) (x := 2 + 16 * fact) ⟨by omega, by omega⟩ (htO_f f0_w f1_w)
          refine ⟨[], _, c216 h 2 fact t6 (by omega) (by decide) (by decide) f0_w (by omega), ?_⟩
          rw [show j_iop 0 (emt h (2 + 16 * fact) 182 7) 1 = emt h (2 + 16 * fact) 182 7 + 1 by rw [emt_7]; exact jat hp]
          exact hR 0 _ _ (Or.inl rfl) z1 z2 (z3.mono hb_w)
        · exact absurd z np
        · exact absurd z nt
theorem b_221 : bb_221 = (sx 2 (sx 2 (sx 10 (sx 21 (sx 4 (sx 3 z0 z0 z0) (sv 8) z0) z0 (sv 4)) (sx 20 (sx 17 z0 z0 z0) z0 z0) z0) (sx 2 (sx 3 (sv 2) (sx 20 (sx 7 (sx 5 (sx 3 z0 z0 z0) (sv 4) z0) (sx 4 (sx 3 z0 z0 z0) (sv 7) z0) z0) (sx 1 (sv 2) (sv 1) z0) z0) z0) (sx 2 (sx 3 (sv 3) (sx 32 (sx 30 (sx 3 z0 z0 z0) (sx 30 (sx 1 (sv 20) (sv 1) z0) (sx 30 (sx 1 (sv 4) (sv 1) z0) (sx 31 z0 z0 z0) z0) z0) z0) (sv 201) z0) z0) (sx 2 (sx 11 (sx 25 (sx 25 (sx 25 (sx 21 (sx 3 (sv 3) z0 z0) z0 (sv 2)) (sx 27 (sx 24 (sx 3 (sv 2) z0 z0) z0 z0) z0 z0) z0) (sx 27 (sx 24 (sx 32 (sx 30 (sx 3 z0 z0 z0) (sx 30 (sx 1 (sv 40) (sv 1) z0) (sx 31 z0 z0 z0) z0) z0) (sv 192) z0) z0 z0) z0 z0) z0) (sx 27 (sx 24 (sx 32 (sx 30 (sx 3 z0 z0 z0) (sx 30 (sx 1 (sv 17) (sv 1) z0) (sx 31 z0 z0 z0) z0) z0) (sv 193) z0) z0 z0) z0 z0) z0) (sx 20 (sx 9 (sx 32 (sx 30 (sx 3 z0 z0 z0) (sx 30 (sx 1 (sv 1) (sv 1) z0) (sx 31 z0 z0 z0) z0) z0) (sv 191) z0) z0 z0) z0 z0) (sx 10 (sx 20 (sx 3 (sv 1) z0 z0) (sx 1 (sv 5) (sv 1) z0) z0) (sx 20 (sx 9 (sx 32 (sx 30 (sx 3 z0 z0 z0) (sx 30 (sx 1 (sv 5) (sv 1) z0) (sx 31 z0 z0 z0) z0) z0) (sv 191) z0) z0 z0) z0 z0) z0)) tl_221 z0) z0) z0) z0) (sx 17 z0 z0 z0) z0) := rfl
def E221 (P : Int × Int) (N b : Nat) (h : XH) : Nat → List Int → List Int → XH → Prop := fun k vs _ h1 => (k = 0 → QK P (r_T 0) (RJ P) h1 ∧ PX N h h1 ∧ EX b h h1) ∧ (¬k = 0 → k = 1 ∧ vs = [] ∧ QK P (r_T 0) (RJ P) h1 ∧ PX N h h1 ∧ EX b h h1)
theorem ex_12 {b : Nat} (e12_w : h1 182 12 = h 182 12) (e : EX b h1 h2) : EX b h h2 := fun h0 => by
  have k := e h0
  rw [e12_w] at k
  exact k
theorem g_221 {b : Nat} {a : Int} (c191 : G191 P N g (evF xs L ck K cW g_M n)) (c192 : G192 P N g (evF xs L ck K cW g_M n)) (c193 : G193 P N g (evF xs L ck K cW g_M n)) (c194 : G194 P N g (evF xs L ck K cW g_M n)) (c195 : G195 P N g (evF xs L ck K cW g_M n)) (c196 : G196 P N g (evF xs L ck K cW g_M n)) (c201 : G201 P N g (evF xs L ck K cW g_M n)) (c216 : G216 P N g (evF xs L ck K cW g_M n)) (ce1 : a < 5 → GE 221 b (a + 1) P N g (evF xs L ck K cW g_M n)) (ce2 : a < 5 → GE 217 b (a + 1) P N g (evF xs L ck K cW g_M n)) (hb_w : 1 ≤ b) (a0_w : 0 ≤ a) (a5 : a ≤ 5) : GE 221 b a P N g (evF xs L ck K cW g_M (n + 1)) := fun h hp hc_w => by
  suffices hs : ∃ r h', evF xs L ck K cW g_M (n + 1) 221 [182, a] ((a_g3, g), h) = some (1, r, ((a_g3, g), h')) ∧ r = [] ∧ QK P (r_T 0) (RJ P) h' ∧ PX N h h' ∧ EX b h h' by
    obtain ⟨r, h', e1_w, rfl, e2_w⟩ := hs
    exact ⟨h', e1_w, e2_w⟩
  refine tr_of gm_221 (B := fun r h' => r = [] ∧ QK P (r_T 0) (RJ P) h' ∧ PX N h h' ∧ EX b h h') ?_
  show wS _ _ K bb_221 [182, a, 0, 0] h _
  generalize evF xs L ck K cW g_M n = F at c191 c192 c193 c194 c195 c196 c201 c216 ce1 ce2 ⊢
  rw [b_221]
  simp only [wf_4, wf_40, wf_5, wf_50, wf_6, wl_1, wt_1, wu_1, wa_1, wl_4, wt_4, wu_4, wa_4, wl_5, wt_5, wu_5, wa_5, wl_6, wt_6, wu_6, wa_6, wl_9, wt_9, wu_9, wa_9, wl_10, wt_10, wu_10, wa_10, wl_11, wt_11, wu_11, wa_11, wl_13, wt_13, wu_13, wa_13, wl_14, wt_14, wu_14, wa_14, wl_15, wt_15, wu_15, wa_15, wl_16, wt_16, wu_16, wa_16, wl_17, wt_17, wu_17, wa_17, wl_20, wt_20, wu_20, wa_20, wl_21, wt_21, wu_21, wa_21, wl_22, wt_22, wu_22, wa_22, wl_23, wt_23, wu_23, wa_23, wl_24, wt_24, wu_24, wa_24, wl_26, wt_26, wu_26, wa_26, wl_27, wt_27, wu_27, wa_27, wl_28, wt_28, wu_28, wa_28, we_1, we_3, we_10, we_14, we_15, we_16, we_17, we_18, we_20, we_21, we_22, we_24, we_25, we_26, we_27, we_28, we_30, we_31, we_32, wc_20, wc_21, wc_22, wc_24, wc_25, wc_26, wc_27, wc_3, wc_4, wc_7, wc_28, wc_32, ws_1, ws_2, ws_3, ws_4, ws_9, ws_10, ws_11, ws_14, ws_15, ws_16, ws_27, ws_17, ws_20, ws_28, kc_0, kc_1, kn_1, kc_2, kn_2, kc_3, kc_4, kc_5, kc_6, kc_7, kc_8, kc_9, kc_10, kc_12, kc_13, kc_14, kc_16, kc_17, kc_18, kc_19, kc_20, kc_21, kc_22, kc_24, kc_28, kc_30, kc_32, kc_37, kc_40, kc_41, kc_42, kc_43, kc_45, kc_48, kc_56, kc_57, kc_59, kc_60, kc_61, kc_64, kc_73, kc_78, kc_91, kc_95, kc_96, kc_97, kc_98, kc_99, kc_100, kc_112, kc_122, kc_125, kc_126, kc_150, kc_162, kc_163, kc_168, kc_186, kc_190, kc_200, kc_250, kc_255, kc_355, kc_356, kc_404, kc_405, kc_429, kc_573, kc_999, kc_1000, kc_1002, kc_1100, kc_1891, kc_2200, kc_4719, kc_4869, kc_4881, kc_5148, kc_9999, kn_9999, kc_10000, kc_12345, kc_19741, kc_25433, kc_65536, kc_320403, kc_628412, kc_629093, kc_660401, kc_679843, kc_918640, kc_979410, kc_1178088, kc_6232410, kc_24644941, kc_36238189, kc_38270444, kc_392531318, kc_425693491, kc_1103515245, kc_1342154595, kc_2147483648, kc_42328242873, kc_891704255789, kc_1722105685577, kc_1858726030364, ct_0, ct_1, ct_2, ct_3, ct_4, ct_5, cf_0, cf_1, cf_2, cf_3, cf_4, cf_5, w_ty6, w_ty7, m_sv, m_z0, m_hd, m_g0, m_gs, m_s0, m_ss, m_ap, m_an, forall_const, true_and, and_true, ne_eq, not_true_eq_false, not_false_eq_true, false_implies, true_implies, implies_true, eq_self, reduceCtorEq, Nat.reduceDiv, Nat.reduceMod, Int.reduceToNat, or_true, true_or, or_false, false_or, or_self, m_it, m_if, m_c1, m_01, m_02, m_03, m_04, m_10, m_12, m_13, m_14, m_20, m_21, m_23, m_24, m_30, m_31, m_32, m_34, m_40, m_41, m_42, m_43]
  have p1_w := hp.2.1.1
  have c0 := hp.2.1.2.2.2.2.2.1
  have t2_w := hp.2.1.2.1
  have t3_w := hp.2.1.2.2.1
  have t4_w := hp.2.1.2.2.2.1
  have ba_w : 0 ≤ h 182 7 ∧ h 182 7 < 1002 := ⟨t2_w, by omega⟩
  have T : ∀ (num fact : Int) (h2 : XH), PA N h h2 → N221 h2 a num fact → wS (a_g3, g) F K tl_221 [182, a, num, fact] h2 (E221 P N b h) := fun num fact h2 ha_w hn => by
    have e12_w : h2 182 12 = h 182 12 := ha_w.1 182 12 (fun _ => by decide)
    have a5' := ha_w.2.2.2.2.1
    refine t_221 c194 c195 c196 c216 ce1 ce2 hb_w a0_w (hp.pa ha_w) (by omega) hn ?_
    intro k en h' hk q px ex_w
    have good_w : QK P (r_T 0) (RJ P) h' ∧ PX N h h' ∧ EX b h h' := ⟨q, (PA.px hp ha_w).tr px c0, ex_12 e12_w ex_w⟩
    exact ⟨fun _ => good_w, fun z => ⟨by omega, rfl, good_w⟩⟩
  have W : ∀ (w : Int) (num fact : Int), 1 ≤ w → w ≤ 5 → ∃ r h2, F 191 [182, w] ((a_g3, g), h) = some (1, r, (a_g3, g), h2) ∧ wS (a_g3, g) F K tl_221 [182, a, num, fact] h2 (E221 P N b h) := fun w num fact w0_w w1_w => by
    obtain ⟨h2, f1_w, f2_w, f3_w, f4_w, -⟩ := c191 h w hp w0_w w1_w
    exact ⟨[], h2, f1_w, T num fact h2 f2_w (fun z => absurd z f4_w)⟩
  have D : ∀ (num fact : Int), (h 182 8 = 0 → (num = 1 ∧ h 184 (h 182 7).toNat = 2) ∨ (num = 0 ∧ ((0 ≤ fact ∧ fact < 4 ∧ ∃ w, tkW h w) ∨ tkS h 40 ∨ tkW h 17))) → (a = 5 → ∃ r h2, F 191 [182, 5] ((a_g3, g), h) = some (1, r, (a_g3, g), h2) ∧ wS (a_g3, g) F K tl_221 [182, a, num, fact] h2 (E221 P N b h)) ∧ (¬a = 5 → wS (a_g3, g) F K tl_221 [182, a, num, fact] h (E221 P N b h)) := fun num fact hn => ⟨fun _ => W 5 num fact (by decide) (by decide), fun z => T num fact h (PA.rf hp) (fun k => ⟨by omega, hn k⟩)⟩
  refine ⟨fun k => ⟨hp.1, PA.px hp (PA.rf hp), fun z => by omega⟩, fun k => ⟨ba_w, fun hs => ?_, fun hs => ?_⟩⟩
  · obtain ⟨v, e1_w, e2_w, e3_w, e4_w, e5_w⟩ := c201 h 20 4 hp (by decide) (by decide) (by decide)
    have no : v < 0 := by
      rcases Int.lt_or_le v 0 with z | z
      · exact z
      · have z2 := (e4_w z).2.2.1
        rw [hs] at z2
        exact absurd z2 (by decide)
    exact ⟨[v], h, e1_w, fun _ => ⟨fun _ => D 1 v (fun _ => Or.inl ⟨rfl, hs⟩), fun z => absurd z (by decide)⟩, fun z => absurd no (Int.not_lt.mpr z)⟩
  · obtain ⟨v, e1_w, e2_w, e3_w, e4_w, e5_w⟩ := c201 h 20 4 hp (by decide) (by decide) (by decide)
    obtain ⟨w, d1_w, d2_w, d3_w⟩ := c192 h 40 hp ⟨by decide, by decide⟩
    obtain ⟨u, m1_w, m2_w, m3_w⟩ := c193 h 17 hp (by decide) (by decide)
    exact ⟨[v], h, e1_w, fun _ => ⟨[w], h, d1_w, fun k2 => D 0 v (fun _ => Or.inr ⟨rfl, Or.inr (Or.inl (d3_w.mp k2))⟩), fun _ => ⟨[u], h, m1_w, fun k2 => D 0 v (fun _ => Or.inr ⟨rfl, Or.inr (Or.inr (m3_w.mp k2))⟩), fun _ => W 1 0 v (by decide) (by decide)⟩⟩, fun z => D 0 v (fun _ => Or.inr ⟨rfl, Or.inl ⟨z, (e4_w z).1, _, (e4_w z).2⟩⟩)⟩
/-- every fuel is_w enough_w that is_w so much deeper -/
def PB (P : Int × Int) (N : Nat) (g : Nat × Nat) (F : XP) : Prop := G191 P N g F ∧ G192 P N g F ∧ G193 P N g F ∧ G194 P N g F ∧ G195 P N g F ∧ G196 P N g F ∧ G197 P N g F ∧ G200 P N g F ∧ G201 P N g F ∧ G202 P N g F ∧ G203 P N g F ∧ G204 P N g F ∧ G205 P N g F ∧ G216 P N g F
theorem p_b (hK_w : 4294967300 ≤ K) : PB P N g (evF xs L ck K cW g_M (n + 5)) :=
  ⟨g_191, g_192, g_193, g_194 g_192 g_191, g_195 g_192, g_196 g_193, g_197 (g_196 g_193) g_191, g_200 g_191, g_201 hK_w g_193, g_202 (g_201 hK_w g_193) g_191, g_203 (g_201 hK_w g_193), g_204 hK_w, g_205 (g_203 (g_201 hK_w g_193)) (g_204 hK_w) g_191, g_216⟩
theorem GE.mono {f b c : Nat} {d : Int} (e : GE f b d P N g F) (hb_w : b ≤ c) : GE f c d P N g F := fun h hp hc_w => by
  obtain ⟨h', e1_w, e2_w, e3_w, e4_w⟩ := e h hp hc_w
  exact ⟨h', e1_w, e2_w, e3_w, EX.mono e4_w hb_w⟩
theorem g_E1 {k : Nat} {d : Int} (hK_w : 4294967300 ≤ K) (e : GE 221 (4 * k + 1) d P N g (evF xs L ck K cW g_M (n + 2))) : GE 217 (4 * k + 5) d P N g (evF xs L ck K cW g_M (n + 6)) :=
  g_217 (b := 4 * k + 4) (by omega) g_193 g_216 (g_218 (b := 4 * k + 3) g_192 (g_195 g_192) g_216 (g_219 (b := 4 * k + 2) (by omega) g_192 g_216 (g_220 (b := 4 * k + 1) (by omega) (g_195 g_192) g_216 e)))
theorem g_E (hK_w : 4294967300 ≤ K) : ∀ (k n : Nat) (d : Int), d = 5 - (k : Int) → 0 ≤ d → GE 221 (4 * k + 1) d P N g (evF xs L ck K cW g_M (n + (5 * k + 6))) ∧ GE 217 (4 * k + 5) d P N g (evF xs L ck K cW g_M (n + (5 * k + 10)))
  | 0, n, d, hd_w, d0_w => by
    obtain ⟨c191, c192, c193, c194, c195, c196, c197, c200, c201, c202, c203, c204, c205, c216⟩ := p_b (P := P) (N := N) (g := g) (xs := xs) (L := L) (K := K) (n := n) (ck := ck) (cW := cW) hK_w
    have e : GE 221 (4 * 0 + 1) d P N g (evF xs L ck K cW g_M (n + 6)) := g_221 c191 c192 c193 c194 c195 c196 c201 c216 (fun z => by omega) (fun z => by omega) (by decide) d0_w (by omega)
    exact ⟨e, g_E1 (n := n + 4) hK_w e⟩
  | k + 1, n, d, hd_w, d0_w => by
    obtain ⟨c191, c192, c193, c194, c195, c196, c197, c200, c201, c202, c203, c204, c205, c216⟩ := p_b (P := P) (N := N) (g := g) (xs := xs) (L := L) (K := K) (n := n + (5 * k + 5)) (ck := ck) (cW := cW) hK_w
    have i1_w := (g_E hK_w k n (d + 1) (by omega) (by omega)).2
    have i2_w := (g_E hK_w k (n + 4) (d + 1) (by omega) (by omega)).1
    rw [show n + 4 + (5 * k + 6) = n + (5 * k + 10) by omega] at i2_w
    have e : GE 221 (4 * k + 5) d P N g (evF xs L ck K cW g_M (n + (5 * k + 10) + 1)) := g_221 c191 c192 c193 c194 c195 c196 c201 c216 (fun _ => i2_w.mono (by omega)) (fun _ => i1_w) (by omega) d0_w (by omega)
    have e2_w := g_E1 (k := k + 1) (n := n + (5 * k + 9)) hK_w e
    exact ⟨e, e2_w⟩
end PAR7
