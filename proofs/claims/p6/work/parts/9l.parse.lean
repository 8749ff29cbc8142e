/-! ===== the reference's parser: a new_w name_w ===== -/
section PARA
variable {P : Int × Int} {N : Nat} {g : Nat × Nat} {xs : Nat → Int} {L K n : Nat} {ck : Nat → List Nat} {cW : Nat → Nat → Int} {h h' h1 h2 : XH} {F : XP}
theorem pf_7 (hp : PK P N h) : PF N (fun _ => False) h h := (PA.rf hp).pf
/-- the name_w is_w laid_w down_w, and one goes_w on_w -/
theorem nm_QK (hp : PK P N h) (ht : h 184 (h 182 7).toNat ≠ 0) {i : Nat} (hi_w : 14 ≤ i) : PK P N (atp (j_up h 190 i (h 186 (h 182 7).toNat))) ∧ PF N (fun _ => False) h (atp (j_up h 190 i (h 186 (h 182 7).toNat))) := by
  have hl : InL (h 186 (h 182 7).toNat) := ht_long hp.1.1 (by decide) _
  generalize h 186 (h 182 7).toNat = v at hl ⊢
  have q1_w : QK P (r_T 0) (RJ P) (j_up h 190 i v) := dw_QK hp.1 (ht_upL hp.1.1 (by decide) hl) (Or.inr (Or.inr (Or.inl rfl))) (fun r hr _ _ => IV.sub (List.all_eq_true.mp (show (r_A 190).2.2.all (fun r => i_sub (2, (-9223372036854775808), 9223372036854775807) r.2.2) = true by decide +kernel) r hr) (IV.topL hl))
  have e1_w : PF N (fun _ => False) h (j_up h 190 i v) := ⟨fun o k e e2_w e3_w => up_ne (fun z => by have := e3_w z.1; omega), by rw [up_ne (fun z => absurd z.1 (by decide))]; exact hp.2.1.1, by rw [up_ne (fun z => absurd z.1 (by decide))]; exact ht_fld hp.1 rfl, fun _ => up_ne (fun z => absurd z.1 (by decide)), by rw [up_ne (fun z => absurd z.1 (by decide))]; exact Int.le_refl _, by rw [up_ne (fun z => absurd z.1 (by decide))]; exact hp.2.1.2.2.1⟩
  have p1_w : PK P N (j_up h 190 i v) := ⟨q1_w, e1_w.pt hp.2.1, DG.up hp.1 hp.2.2 (up_ne (fun z => absurd z.1 (by decide))) (up_ne (fun z => absurd z.1 (by decide))) (fun m _ => up_ne (fun z => absurd z.1 (by decide))) (fun m _ => up_ne (fun z => absurd z.1 (by decide)))⟩
  have t1_w : j_up h 190 i v 184 (j_up h 190 i v 182 7).toNat ≠ 0 := by
    rw [up_ne (fun z => absurd z.1 (by decide)), up_ne (fun z => absurd z.1 (by decide))]
    exact ht
  have n1_w := PA.next p1_w t1_w
  exact ⟨p1_w.pa n1_w, e1_w.tr n1_w.pf⟩
def B208 (P : Int × Int) (N : Nat) (h : XH) (b c : Int) (r : List Int) (h' : XH) : Prop := r = [] ∧ PK P N h' ∧ PF N (fun _ => False) h h' ∧ (h' 182 8 = 0 → b < c)
theorem g_208 (c191 : G191 P N g (evF xs L ck K cW g_M n)) (c203 : G203 P N g (evF xs L ck K cW g_M n)) (c204 : G204 P N g (evF xs L ck K cW g_M n)) (c207 : G207 g (evF xs L ck K cW g_M n)) : G208 P N g (evF xs L ck K cW g_M (n + 1)) := fun h a b c hp f0_w ht a0_w b0 bc ac => by
  suffices hs : ∃ r h', evF xs L ck K cW g_M (n + 1) 208 [182, a, b, c] ((a_g3, g), h) = some (1, r, ((a_g3, g), h')) ∧ B208 P N h b c r h' by
    obtain ⟨r, h', e1_w, rfl, e2_w⟩ := hs
    exact ⟨h', e1_w, e2_w⟩
  refine tr_of gm_208 ?_
  show wS _ _ K bb_208 [182, a, b, c] h _
  generalize evF xs L ck K cW g_M n = F at c191 c203 c204 c207 ⊢
  unfold bb_208
  simp only [wf_4, wf_40, wf_5, wf_50, wf_6, wl_1, wt_1, wu_1, wa_1, wl_4, wt_4, wu_4, wa_4, wl_5, wt_5, wu_5, wa_5, wl_6, wt_6, wu_6, wa_6, wl_9, wt_9, wu_9, wa_9, wl_10, wt_10, wu_10, wa_10, wl_11, wt_11, wu_11, wa_11, wl_13, wt_13, wu_13, wa_13, wl_14, wt_14, wu_14, wa_14, wl_15, wt_15, wu_15, wa_15, wl_16, wt_16, wu_16, wa_16, wl_17, wt_17, wu_17, wa_17, wl_20, wt_20, wu_20, wa_20, wl_21, wt_21, wu_21, wa_21, wl_22, wt_22, wu_22, wa_22, wl_23, wt_23, wu_23, wa_23, wl_24, wt_24, wu_24, wa_24, wl_26, wt_26, wu_26, wa_26, wl_27, wt_27, wu_27, wa_27, wl_28, wt_28, wu_28, wa_28, we_1, we_3, we_10, we_14, we_15, we_16, we_17, we_18, we_20, we_21, we_22, we_24, we_25, we_26, we_27, we_28, we_30, we_31, we_32, wc_20, wc_21, wc_22, wc_24, wc_25, wc_26, wc_27, wc_3, wc_4, wc_7, wc_28, wc_32, ws_1, ws_2, ws_3, ws_4, ws_9, ws_10, ws_11, ws_14, ws_15, ws_16, ws_27, ws_17, ws_20, ws_28, kc_0, kc_1, kn_1, kc_2, kn_2, kc_3, kc_4, kc_5, kc_6, kc_7, kc_8, kc_9, kc_10, kc_12, kc_13, kc_14, kc_16, kc_17, kc_18, kc_19, kc_20, kc_21, kc_22, kc_24, kc_28, kc_30, kc_32, kc_37, kc_40, kc_41, kc_42, kc_43, kc_45, kc_48, kc_56, kc_57, kc_59, kc_60, kc_61, kc_64, kc_73, kc_78, kc_91, kc_95, kc_96, kc_97, kc_98, kc_99, kc_100, kc_112, kc_122, kc_125, kc_126, kc_150, kc_162, kc_163, kc_168, kc_186, kc_190, kc_200, kc_250, kc_255, kc_355, kc_356, kc_404, kc_405, kc_429, kc_573, kc_999, kc_1000, kc_1002, kc_1100, kc_1891, kc_2200, kc_4719, kc_4869, kc_4881, kc_5148, kc_9999, kn_9999, kc_10000, kc_12345, kc_19741, kc_25433, kc_65536, kc_320403, kc_628412, kc_629093, kc_660401, kc_679843, kc_918640, kc_979410, kc_1178088, kc_6232410, kc_24644941, kc_36238189, kc_38270444, kc_392531318, kc_425693491, kc_1103515245, kc_1342154595, kc_2147483648, kc_42328242873, kc_891704255789, kc_1722105685577, kc_1858726030364, ct_0, ct_1, ct_2, ct_3, ct_4, ct_5, cf_0, cf_1, cf_2, cf_3, cf_4, cf_5, w_ty6, w_ty7, m_sv, m_z0, m_hd, m_g0, m_gs, m_s0, m_ss, m_ap, m_an, forall_const, true_and, and_true, ne_eq, not_true_eq_false, not_false_eq_true, false_implies, true_implies, implies_true, eq_self, reduceCtorEq, Nat.reduceDiv, Nat.reduceMod, Int.reduceToNat, or_true, true_or, or_false, false_or, or_self, m_it, m_if, m_c1, m_01, m_02, m_03, m_04, m_10, m_12, m_13, m_14, m_20, m_21, m_23, m_24, m_30, m_31, m_32, m_34, m_40, m_41, m_42, m_43]
  rw [jat hp]
  have n1_w := PA.next hp ht
  have hpa : PK P N (atp h) := hp.pa n1_w
  have fa : atp h 182 8 = 0 := atp_8.trans f0_w
  have ba_w : 0 ≤ h 182 7 ∧ h 182 7 < 1002 := by
    have t2_w := hp.2.1.2.1
    have t3_w := hp.2.1.2.2.1
    have t4_w := hp.2.1.2.2.2.1
    exact ⟨t2_w, by omega⟩
  -- a fault
  have bad_w : ∀ {w : Int} {h2 : XH} {X : Prop}, PA N (atp h) h2 → h2 182 8 ≠ 0 → (h2 182 8 = 0 → X) ∧ (¬h2 182 8 = 0 → B208 P N h b c [] h2) := fun e2_w e4_w => ⟨fun z => absurd z e4_w, fun _ => ⟨rfl, hpa.pa e2_w, (n1_w.pf).tr e2_w.pf, fun z => absurd z e4_w⟩⟩
  refine ⟨fun _ => ?_, fun hbc => ?_⟩
  · obtain ⟨h1, e1_w, e2_w, e3_w, e4_w, -⟩ := c191 h 5 hp (by decide) (by decide)
    exact ⟨[], h1, e1_w, rfl, hp.pa e2_w, e2_w.pf, fun z => absurd z e4_w⟩
  have ji : j_iop 0 (j_iop 0 14 a) b = 14 + a + b := by
    rw [jadd (x := 14) (y := a) (by omega) (by omega), jadd (by omega) (by omega)]
  rw [ji]
  obtain ⟨v, d1_w, d2_w, d3_w⟩ := c203 (atp h) hpa
  have r1_w : 0 ≤ h 188 96 ∧ h 188 96 ≤ 4 := by
    have k : IV P (1, 0, 4) (h 188 96) := q_cell hp.1 (q := 188) (r := 26) (x := (96, 97, (1, 0, 4))) (by decide) rfl rfl (by decide) (by decide)
    exact ⟨k.1, k.2.1⟩
  have r2 : 0 ≤ h 188 97 ∧ h 188 97 ≤ 4 := by
    have k : IV P (1, 0, 4) (h 188 97) := q_cell hp.1 (q := 188) (r := 27) (x := (97, 98, (1, 0, 4))) (by decide) rfl rfl (by decide) (by decide)
    exact ⟨k.1, k.2.1⟩
  have r3 : 0 ≤ h 188 98 ∧ h 188 98 ≤ 6 := by
    have k : IV P (1, 0, 6) (h 188 98) := q_cell hp.1 (q := 188) (r := 28) (x := (98, 99, (1, 0, 6))) (by decide) rfl rfl (by decide) (by decide)
    exact ⟨k.1, k.2.1⟩
  have a188 : ∀ i, atp h 188 i = h 188 i := fun i => up_ne (fun z => absurd z.1 (by decide))
  rw [← a188] at r1_w r2 r3
  obtain ⟨h3, x1_w, x2_w, x3, x4_w, -⟩ := c191 (atp h) 3 hpa (by decide) (by decide)
  obtain ⟨u1, y1, -⟩ := c204 (atp h) 14 _ hpa (by decide) r1_w.1 (by omega)
  obtain ⟨u2_w, y2, -⟩ := c204 (atp h) 18 _ hpa (by decide) r2.1 (by omega)
  obtain ⟨u3, y3, -⟩ := c204 (atp h) 22 _ hpa (by decide) r3.1 (by omega)
  refine ⟨[v], _, d1_w, fun k => ⟨_, _, c207 (atp h) 1 (by decide) (by decide), [u1], _, y1, fun _ => ⟨[], h3, x1_w, bad_w (w := 0) x2_w x4_w⟩, fun _ => ⟨_, _, c207 (atp h) 2 (by decide) (by decide), [u2_w], _, y2, fun _ => ⟨[], h3, x1_w, bad_w (w := 0) x2_w x4_w⟩, fun _ => ⟨_, _, c207 (atp h) 3 (by decide) (by decide), [u3], _, y3, fun _ => ⟨[], h3, x1_w, bad_w (w := 0) x2_w x4_w⟩, fun _ => ⟨fun _ => ?_, fun z => absurd fa z⟩⟩⟩⟩, fun k => ?_⟩
  · have tt := d3_w.mp k
    have b2 : 0 ≤ atp h 182 7 ∧ atp h 182 7 < 1002 := by
      have t2_w := hpa.2.1.2.1
      have t3_w := hpa.2.1.2.2.1
      have t4_w := hpa.2.1.2.2.2.1
      exact ⟨t2_w, by omega⟩
    obtain ⟨z1, z2⟩ := nm_QK hpa (i := (14 + a + b).toNat) (by rw [tt.2.1]; decide) (by omega)
    refine ⟨b2, ⟨by omega, by omega⟩, ?_⟩
    have e7_w : j_iop 0 (j_up (atp h) 190 (14 + a + b).toNat (atp h 186 (atp h 182 7).toNat) 182 7) 1 = j_up (atp h) 190 (14 + a + b).toNat (atp h 186 (atp h 182 7).toNat) 182 7 + 1 := by
      rw [up_ne (fun z => absurd z.1 (by decide))]
      exact jat hpa
    show B208 P N h b c [] _
    exact (congrArg (fun w => B208 P N h b c [] (j_up (j_up (atp h) 190 (14 + a + b).toNat (atp h 186 (atp h 182 7).toNat)) 182 7 w)) e7_w).mpr ⟨rfl, z1, n1_w.pf.tr z2, fun _ => by omega⟩
  · obtain ⟨h4, x1_w, x2_w, x3, x4_w, -⟩ := c191 (atp h) 1 hpa (by decide) (by decide)
    exact ⟨[], h4, x1_w, bad_w (w := 0) x2_w x4_w⟩
end PARA
