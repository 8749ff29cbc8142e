/-! ===== the fourth reading_w: every statement, every method_w ===== -/
section QV
variable {xs : Nat → Int} {L K : Nat} {ck : Nat → List Nat} {F : XP} {cW : Nat → Nat → Int} {P : Int × Int} {T : QT} {J : XH → Prop} {g : Nat × Nat} {rt : List IT}
theorem this_eq {t : IT} {v : Int} (h : q_isThis t = true) (hv : IV P t v) : v = 182 := by
  simp only [q_isThis, Bool.and_eq_true, beq_iff_eq, decide_eq_true_eq] at h
  rw [iv4 h.1 hv, h.2]
theorem fld_HT (hT_w : RTab T) {h : XH} {k : Nat} {v : Int} (hH : HT g_fk a_g3 h) (hk : (qF T k).1 = 1 ∨ (qF T k).1 = 2) (hv : IV P (qF T k) v) : HT g_fk a_g3 (j_up h 182 k v) := by
  obtain ⟨c1_w, c2⟩ := hT_w.1 k
  generalize qF T k = t at hk hv c1_w c2
  obtain ⟨tt, l, u⟩ := t
  dsimp only at hk c1_w c2
  rcases hk with rfl | rfl
  · refine hH.up (fun _ => hv.2.2) (fun e => absurd ((c1_w rfl).symm.trans e) (by decide)) (fun e => absurd ((c1_w rfl).symm.trans e) (by decide))
  · refine hH.up (fun e => absurd ((c2 rfl).symm.trans e) (by decide)) (fun _ => hv.2.2) (fun e => absurd ((c2 rfl).symm.trans e) (by decide))
theorem arr_HT {h : XH} {q i : Nat} {w : IT} {v : Int} (hH : HT g_fk a_g3 h) (hc_w : ∀ k, c_ty g_fk a_g3 q k = r_kd q) (hk : q_kd q w = true) (hv : IV P w v) : HT g_fk a_g3 (j_up h q i v) := by
  unfold q_kd at hk
  split at hk
  · rename_i e
    refine hH.up (fun _ => InI_of hk hv) (fun e2_w => absurd ((hc_w i).symm.trans e2_w) (by rw [e]; decide)) (fun e2_w => absurd ((hc_w i).symm.trans e2_w) (by rw [e]; decide))
  · rename_i e
    obtain ⟨tt, l, u⟩ := w
    rw [beq_iff_eq] at hk
    dsimp only at hk
    subst hk
    refine hH.up (fun e2_w => absurd ((hc_w i).symm.trans e2_w) (by rw [e]; decide)) (fun _ => hv.2.2) (fun e2_w => absurd ((hc_w i).symm.trans e2_w) (by rw [e]; decide))
  · rename_i e
    refine hH.up (fun e2_w => absurd ((hc_w i).symm.trans e2_w) (by rw [e]; decide)) (fun e2_w => absurd ((hc_w i).symm.trans e2_w) (by rw [e]; decide)) (fun _ => iv_bool (IV.sub hk hv))
  · cases hk
theorem and1 {v : Int} (h : v = 0 ∨ v = 1) : (Int32.ofInt v &&& 1).toInt = v := by
  rcases h with rfl | rfl <;> decide
theorem ty_val (ty_w : Nat) (v : Int) : ty_w ≠ 8 → (ty_w = 9 → v = 0 ∨ v = 1) → (match ty_w with
  | 8 => ((Int32.ofInt v).toInt8.toInt32).toInt
  | 9 => (Int32.ofInt v &&& 1).toInt
  | _ => v) = v := by
  intro h8 h9
  match ty_w, h8, h9 with
  | 8, h8, _ => exact absurd rfl h8
  | 9, _, h9 => exact and1 (h9 rfl)
  | 0, _, _ => rfl
  | 1, _, _ => rfl
  | 2, _, _ => rfl
  | 3, _, _ => rfl
  | 4, _, _ => rfl
  | 5, _, _ => rfl
  | 6, _, _ => rfl
  | 7, _, _ => rfl
  | n + 10, _, _ => rfl
theorem qS_ok (hT_w : RTab T) (hJ : JS T J) (hF : ∀ f, qC T f = true → TotR P T J g F f) (hW : TotW g F) (hB_w : TotB P T J g F) (hK_w : 4294967300 ≤ K) : ∀ (t : SX),
    (∀ τ o, (qS T rt t).1 τ = some o → TotQ P T J g rt τ o (evS xs L ck F K cW t)) ∧ (∀ τ o, (qS T rt t).2 τ = some o → TotK P T J g rt τ o (evS xs L ck F K cW t))
  | .op (.var t) (.op a (.op b c)) => by
    have iA := qS_ok hT_w hJ hF hW hB_w hK_w a
    have iB_w := qS_ok hT_w hJ hF hW hB_w hK_w b
    have iC := qS_ok hT_w hJ hF hW hB_w hK_w c
    have e := fun t τ us τt τf h => q_ok (xs := xs) (L := L) (ck := ck) (cW := cW) hT_w hF hW hB_w t τ us τt τf h
    have e1_w : ∀ (t : SX) τ x, q_one (qE T t τ) = some x → TotI P T J g τ [x.1] x.2.1 x.2.2 (evE xs L ck F cW t) := fun t τ x h => e t τ _ _ _ (q_one_s h)
    constructor
    · intro τ o h
      show TotQ P T J g rt τ o (nodeS xs L ck F K cW t a b c (evS xs L ck F K cW a) (evS xs L ck F K cW b) (evS xs L ck F K cW c))
      have h : (qSN T rt t a b c (qS T rt a) (qS T rt b) (qS T rt c)).1 τ = some o := h
      unfold qSN at h
      dsimp only at h
      split at h
      · cases h; exact qs_skip
      · cases h; exact qs_skip
      · obtain ⟨o1, h1, h⟩ := j_bd h
        have hA := iA.1 τ o1 h1
        split at h
        · rename_i hn
          cases h
          exact qs_seq (q := o) hA (fun τ1 k => by rw [hn] at k; cases k) ⟨leJ.no, leJ.rf, leJ.rf⟩ (fun k => absurd hn k)
        · rename_i τ1 hn
          obtain ⟨q, h2, h⟩ := j_bd h
          exact qs_seq hA (fun τ2 k => by rw [hn] at k; cases k; exact iB_w.1 τ1 q h2) (qjoins_l h) (fun _ => qjoins_r h)
      · obtain ⟨x, h1, h⟩ := j_bd h
        cases h
        intro en hh hQ hv
        obtain ⟨v, h', f1_w, f2_w, f3_w, f4_w, -⟩ := qi_one (e1_w b τ x h1) hQ hv
        refine ⟨0, [], en.set (sx_n a) v, h', ?_, f2_w, f3_w, Or.inl ⟨rfl, _, rfl, IL.set (sx_n a) hv f4_w⟩⟩
        show (evE xs L ck F cW b en _).bind _ = _
        rw [f1_w]
        rfl
      · obtain ⟨h1, h⟩ := b_if h
        cases h
        rw [beq_iff_eq] at h1
        intro en hh hQ hv
        refine ⟨0, [], _, hh, rfl, hQ, KR.rf, Or.inl ⟨rfl, _, rfl, IL.set (sx_n a) hv ?_⟩⟩
        rw [h1]
        by_cases hc_w : sx_n c = 0
        · rw [if_pos hc_w, show (sx_n c == 0) = true from by rw [beq_iff_eq]; exact hc_w]
          exact i_op_ok (op_w := 0) (IL.at _ hv) (b := (1, 1, 1)) ⟨Int.le_refl _, Int.le_refl _, by decide, by decide⟩
        · rw [if_neg hc_w, show (sx_n c == 0) = false from by rw [beq_eq_false_iff_ne]; exact hc_w]
          exact i_op_ok (op_w := 0) (IL.at _ hv) (b := (1, -1, -1)) ⟨Int.le_refl _, Int.le_refl _, by decide, by decide⟩
      · obtain ⟨x, h1, h⟩ := j_bd h
        obtain ⟨y, h2, h⟩ := j_bd h
        obtain ⟨h3, h⟩ := b_if h
        cases h
        simp only [Bool.and_eq_true, Bool.or_eq_true, beq_iff_eq] at h3
        intro en hh hQ hv
        obtain ⟨v, ha_w, a1_w, a2, a3, a4, -⟩ := qi_one (e1_w a τ x h1) hQ hv
        obtain ⟨w, hb_w, b1, b2, b3, b4, -⟩ := qi_one (e1_w b τ y h2) a2 hv
        have ev_w := this_eq h3.1.1 a4
        subst ev_w
        have hw := IV.sub h3.2 b4
        refine ⟨0, [], en, j_up hb_w 182 (sx_n c) w, ?_, ⟨fld_HT hT_w b2.1 h3.1.2 hw, RI.fld hJ hT_w.2.2.2 b2.2 hw⟩, (a3.tr b3).tr (KR.up hT_w.2.2.2), Or.inl ⟨rfl, _, rfl, hv⟩⟩
        show s_putf _ _ _ en _ = _
        unfold s_putf
        rw [a1_w, Option.bind_some, b1]
        rfl
      · obtain ⟨x, h1, h⟩ := j_bd h
        obtain ⟨y, h2, h⟩ := j_bd h
        obtain ⟨h3, h⟩ := b_if h
        cases h
        simp only [Bool.and_eq_true, beq_iff_eq] at h3
        intro en hh hQ hv
        obtain ⟨v, ha_w, a1_w, a2, a3, a4, -⟩ := qi_one (e1_w a τ x h1) hQ hv
        obtain ⟨w, hb_w, b1, b2, b3, b4, -⟩ := qi_one (e1_w b τ y h2) a2 hv
        have ev_w := this_eq h3.1.1 a4
        subst ev_w
        have hw := IV.sub h3.2 (i_op_ok (op_w := sx_n c % 16) (a2.2.1 (sx_n c / 16)) b4)
        refine ⟨0, [], en, j_up hb_w 182 (sx_n c / 16) (j_iop (sx_n c % 16) (ha_w 182 (sx_n c / 16)) w), ?_, ⟨fld_HT hT_w b2.1 (Or.inl h3.1.2) hw, RI.fld hJ hT_w.2.2.2 b2.2 hw⟩, (a3.tr b3).tr (KR.up hT_w.2.2.2), Or.inl ⟨rfl, _, rfl, hv⟩⟩
        show s_putfC _ _ _ _ en _ = _
        unfold s_putfC
        rw [a1_w, Option.bind_some, b1]
        rfl
      · match c, h with
        | .op (.var ty_w) v, h =>
          obtain ⟨x, h1, h⟩ := j_bd h
          obtain ⟨y, h2, h⟩ := j_bd h
          obtain ⟨z, h3, h⟩ := j_bd h
          obtain ⟨h4, h⟩ := b_if h
          cases h
          simp only [q_arr, Bool.and_eq_true, Bool.or_eq_true, Bool.not_eq_true', beq_iff_eq, beq_eq_false_iff_ne, decide_eq_true_eq] at h4
          obtain ⟨⟨⟨⟨⟨⟨⟨q1_w, q2_w⟩, q3_w⟩, q4_w⟩, q5_w⟩, q6_w⟩, q7_w⟩, q8_w⟩ := h4
          intro en hh hQ hv
          obtain ⟨va, ha_w, a1_w, a2, a3, a4, -⟩ := qi_one (e1_w a τ x h1) hQ hv
          obtain ⟨vb, hb_w, b1, b2, b3, b4, -⟩ := qi_one (e1_w b τ y h2) a2 hv
          obtain ⟨vc, hc_w, c1_w, c2, c3, c4, -⟩ := qi_one (e1_w v τ z h3) b2 hv
          have ev_w := iv4 q1_w a4
          obtain ⟨k1_w, k2, k3, k4⟩ := hT_w.2.2.1 x.1.2.1.toNat (by omega) (by omega)
          have hst : (match ar_ld (qA T x.1.2.1.toNat) y.1 with
            | some _ => true
            | none => false) = true := by
            unfold ar_st at q5_w
            rw [Bool.and_eq_true] at q5_w
            exact q5_w.1
          cases hl : ar_ld (qA T x.1.2.1.toNat) y.1 with
          | none => rw [hl] at hst; cases hst
          | some u =>
            obtain ⟨i0, i1_w, -⟩ := ar_ld_ok (c2.2.2.1 x.1.2.1.toNat (by omega)) k2 hl b4
            refine ⟨0, [], en, j_up hc_w x.1.2.1.toNat vb.toNat vc, ?_, ⟨arr_HT c2.1 k4 q6_w c4, RI.arr hJ q4_w c2.2 (by omega) k3 q5_w b4 c4⟩, ((a3.tr b3).tr c3).tr (KR.up q4_w), Or.inl ⟨rfl, _, rfl, hv⟩⟩
            show s_ast ty_w _ _ _ en _ = _
            unfold s_ast
            rw [a1_w, Option.bind_some, b1, Option.bind_some, c1_w, Option.bind_some]
            have e3_w : (j_hd [va]).toNat = x.1.2.1.toNat := by rw [← ev_w]; rfl
            dsimp only
            rw [if_pos ⟨i0, by
              show vb < j_len a_g3 (j_hd [va]).toNat
              rw [e3_w, k1_w]
              exact i1_w⟩, e3_w]
            exact congrArg (fun z => some (0, ([] : List Int), en, ((a_g3, g), j_up hc_w x.1.2.1.toNat vb.toNat z))) (ty_val ty_w vc q7_w (fun k => iv_bool (IV.sub (q8_w.resolve_left (fun k2 => k2 k)) c4)))
        | .var _, h => cases h
        | .op (.op _ _) _, h => cases h
      · match c, h with
        | .op (.var op_w) v, h =>
          obtain ⟨x, h1, h⟩ := j_bd h
          obtain ⟨y, h2, h⟩ := j_bd h
          obtain ⟨z, h3, h⟩ := j_bd h
          obtain ⟨u, h5, h⟩ := j_bd h
          obtain ⟨h4, h⟩ := b_if h
          cases h
          simp only [q_arr, Bool.and_eq_true, beq_iff_eq, decide_eq_true_eq] at h4
          obtain ⟨⟨⟨⟨⟨q1_w, q2_w⟩, q3_w⟩, q4_w⟩, q5_w⟩, q6_w⟩ := h4
          intro en hh hQ hv
          obtain ⟨va, ha_w, a1_w, a2, a3, a4, -⟩ := qi_one (e1_w a τ x h1) hQ hv
          obtain ⟨vb, hb_w, b1, b2, b3, b4, -⟩ := qi_one (e1_w b τ y h2) a2 hv
          obtain ⟨vc, hc_w, c1_w, c2, c3, c4, -⟩ := qi_one (e1_w v τ z h3) b2 hv
          have ev_w := iv4 q1_w a4
          obtain ⟨k1_w, k2, k3, k4⟩ := hT_w.2.2.1 x.1.2.1.toNat (by omega) (by omega)
          obtain ⟨i0, i1_w, i2_w⟩ := ar_ld_ok (b2.2.2.1 x.1.2.1.toNat (by omega)) k2 h5 b4
          have e3_w : (j_hd [va]).toNat = x.1.2.1.toNat := by rw [← ev_w]; rfl
          have hop := i_op_ok (op_w := op_w) i2_w c4
          refine ⟨0, [], en, j_up hc_w x.1.2.1.toNat vb.toNat (j_iop op_w (hb_w x.1.2.1.toNat vb.toNat) vc), ?_, ⟨?_, RI.arr hJ q4_w c2.2 (by omega) k3 q5_w b4 hop⟩, ((a3.tr b3).tr c3).tr (KR.up q4_w), Or.inl ⟨rfl, _, rfl, hv⟩⟩
          · show s_astC op_w _ _ _ en _ = _
            unfold s_astC
            rw [a1_w, Option.bind_some, b1, Option.bind_some]
            have hl : j_hd [vb] < j_len a_g3 (j_hd [va]).toNat := by
              rw [e3_w, k1_w]
              exact i1_w
            dsimp only
            rw [if_pos ⟨i0, hl⟩, c1_w, Option.bind_some]
            dsimp only
            rw [if_pos hl, e3_w]
            rfl
          · exact c2.1.up (fun _ => iop_in _ _ _) (fun e2_w => absurd ((k4 _).symm.trans e2_w) (by rw [q6_w]; decide)) (fun e2_w => absurd ((k4 _).symm.trans e2_w) (by rw [q6_w]; decide))
        | .var _, h => cases h
        | .op (.op _ _) _, h => cases h
      · obtain ⟨x, h1, h⟩ := j_bd h
        cases h
        intro en hh hQ hv
        obtain ⟨v, h', f1_w, f2_w, f3_w, -⟩ := e a τ _ _ _ (show qE T a τ = some (x.1, x.2.1, x.2.2) from h1) en hh hQ hv
        refine ⟨0, [], en, h', ?_, f2_w, f3_w, Or.inl ⟨rfl, _, rfl, hv⟩⟩
        show (evE xs L ck F cW a en _).bind _ = _
        rw [f1_w]
        rfl
      · obtain ⟨x, h1, h⟩ := j_bd h
        obtain ⟨o1, h2, h⟩ := j_bd h
        exact qs_if (e1_w a τ x h1) (iB_w.1 _ o1 h2) qs_skip (qjoins_l h) (qjoins_r h)
      · obtain ⟨x, h1, h⟩ := j_bd h
        obtain ⟨o1, h2, h⟩ := j_bd h
        obtain ⟨o2, h3, h⟩ := j_bd h
        exact qs_if (e1_w a τ x h1) (iB_w.1 _ o1 h2) (iC.1 _ o2 h3) (qjoins_l h) (qjoins_r h)
      · obtain ⟨x, h1, h⟩ := j_bd h
        obtain ⟨o1, h2, h⟩ := j_bd h
        exact qs_if (e1_w a τ x h1) (iB_w.1 _ o1 h2) qs_brk (qjoins_l h) (qjoins_r h)
      · split at h
        · rename_i i u c3 hst
          obtain ⟨h1, h⟩ := b_ifx h
          obtain ⟨p1_w, p2_w, p3_w⟩ := step_ok (xs := xs) (L := L) (ck := ck) (F := F) (K := K) (cW := cW) hst
          rw [Bool.and_eq_true] at h1
          obtain ⟨h1, h0⟩ := h1
          intro en hh hQ hv
          have hL := qlp_ok (K := K) (P'_w := evS xs L ck F K cW c) hK_w (fun τ us τt τf k => e a τ us τt τf k) (fun _ τ o k => iB_w.1 τ o k) (fun k => by
            rw [k] at h1
            exact (kp_S b).1 (by simpa [nw] using h1)) p1_w p2_w p3_w 7 (q_head i u τ) o h
          refine hL en hh hQ ?_
          unfold q_head
          refine IL.put i hv ?_
          obtain ⟨w1_w, w2_w, w3_w⟩ := IV.int h0 (IL.at i hv)
          have w4_w := w3_w
          unfold InI at w4_w
          cases u with
          | true => exact ⟨w1_w, by omega, w3_w⟩
          | false => exact ⟨by omega, w2_w, w3_w⟩
        · cases h
      · cases h; exact qs_brk
      · cases h; exact qs_cnt
      · obtain ⟨x, h1, h⟩ := j_bd h
        obtain ⟨h2, h⟩ := b_if h
        cases h
        intro en hh hQ hv
        obtain ⟨v, h', f1_w, f2_w, f3_w, f4_w, -⟩ := e a τ _ _ _ (show qE T a τ = some (x.1, x.2.1, x.2.2) from h1) en hh hQ hv
        refine ⟨1, v, en, h', ?_, f2_w, f3_w, Or.inr (Or.inl ⟨rfl, IL.sub h2 f4_w⟩)⟩
        show (evE xs L ck F cW a en _).bind _ = _
        rw [f1_w]
        rfl
      · obtain ⟨x, h1, h⟩ := j_bd h
        obtain ⟨h2, h⟩ := b_if h
        cases h
        rw [Bool.and_eq_true] at h2
        intro en hh hQ hv
        obtain ⟨v, h', f1_w, f2_w, f3_w, f4_w, -⟩ := e a τ _ _ _ (show qE T a τ = some (x.1, x.2.1, x.2.2) from h1) en hh hQ hv
        obtain ⟨w, rfl, hw⟩ := IL.one (IL.sub h2.2 f4_w)
        refine ⟨1, [w], en, h', ?_, f2_w, f3_w, Or.inr (Or.inl ⟨rfl, IL.sub h2.1 f4_w⟩)⟩
        show (evE xs L ck F cW a en _).bind _ = _
        rw [f1_w, Option.bind_some]
        exact if_pos (iv_bool hw)
      · obtain ⟨h1, h⟩ := b_if h
        cases h
        refine fun en hh hQ hv => ⟨1, [], en, hh, rfl, hQ, KR.rf, Or.inr (Or.inl ⟨rfl, ?_⟩)⟩
        match rt, h1 with
        | [], _ => trivial
      · obtain ⟨x, h1, h⟩ := j_bd h
        obtain ⟨o1, h2, h⟩ := j_bd h
        obtain ⟨ex_w, h3, h⟩ := j_bd h
        cases h
        exact qs_sw (e1_w a τ x h1) (iB_w.2 _ o1 h2) h3
      · exact iA.1 τ o h
      · cases h
    · intro τ o h
      show TotK P T J g rt τ o (nodeS xs L ck F K cW t a b c (evS xs L ck F K cW a) (evS xs L ck F K cW b) (evS xs L ck F K cW c))
      have h : (qSN T rt t a b c (qS T rt a) (qS T rt b) (qS T rt c)).2 τ = some o := h
      unfold qSN at h
      dsimp only at h
      split at h
      · obtain ⟨o1, h1, h⟩ := j_bd h
        obtain ⟨h2, h⟩ := b_ifx h
        obtain ⟨q, h3, h⟩ := j_bd h
        exact qs_case (iB_w.1 τ o1 h1) (by simpa using h2) (iC.2 τ q h3) (qjoins_l h) (qjoins_r h)
      · exact fun v en hh hQ hv => iA.1 τ o h en hh hQ hv
      · cases h
  | .var _ => ⟨fun _ _ h => (by cases h), fun _ _ h => (by cases h)⟩
  | .op (.op _ _) _ => ⟨fun _ _ h => (by cases h), fun _ _ h => (by cases h)⟩
  | .op (.var _) (.var _) => ⟨fun _ _ h => (by cases h), fun _ _ h => (by cases h)⟩
  | .op (.var _) (.op _ (.var _)) => ⟨fun _ _ h => (by cases h), fun _ _ h => (by cases h)⟩
/-! ===== methods ===== -/
theorem ilay_eq : ∀ {pk_w : List Nat} {av : List Int}, pk_w.all (fun k => !(k == 2)) = true → pk_w.length = av.length → j_lay pk_w av = av
  | [], [], _, _ => rfl
  | k :: pk_w, v :: av, h, hl => by
    rw [List.all_cons, Bool.and_eq_true] at h
    have hk : k ≠ 2 := by simpa using h.1
    show (if k = 2 then v :: 0 :: j_lay pk_w av else v :: j_lay pk_w av) = v :: av
    rw [if_neg hk, ilay_eq h.2 (by simpa using hl)]
  | [], _ :: _, _, hl => by simp at hl
  | _ :: _, [], _, hl => by simp at hl
theorem IL.pad {n : Nat} {ts : List IT} {vs : List Int} (h : IL P ts vs) : IL P (j_pad (0, 0, 0) n ts) (j_pad 0 n vs) := by
  unfold j_pad
  rw [IL.len h]
  exact IL.app h (IL.rep _)
theorem take_pad {n : Nat} {vs : List Int} : (j_pad 0 n vs).take vs.length = vs := by
  unfold j_pad
  exact List.take_left
theorem qM_ok {M : Nat → XM} {n f : Nat} (hT_w : RTab T) (hJ : JS T J) (hF : ∀ f, qC T f = true → TotR P T J g (evF xs L ck K cW M n) f) (hW : TotW g (evF xs L ck K cW M n)) (hB_w : TotB P T J g (evF xs L ck K cW M n)) (hK_w : 4294967300 ≤ K) (h : qM T M f = true) : TotR P T J g (evF xs L ck K cW M (n + 1)) f := by
  unfold qM at h
  simp only [Bool.and_eq_true, Bool.or_eq_true] at h
  obtain ⟨⟨⟨h1, h2⟩, h3⟩, h4⟩ := h
  rw [beq_iff_eq] at h2
  intro av hh hQ hv
  have hl := IL.len hv
  have hlay : j_lay (M f).2.2.1 av = av := ilay_eq h1 (by omega)
  have hpad : IL P (j_pad (0, 0, 0) (M f).2.1 (qP T f)) (j_pad 0 (M f).2.1 av) := IL.pad hv
  rw [evF_s, hlay]
  rcases h4 with h4 | ⟨h4, h5⟩
  · unfold q_ret at h4
    split at h4
    · rename_i a x y hbody
      split at h4
      · rename_i us τt τf hq
        simp only [Bool.and_eq_true] at h4
        obtain ⟨⟨k1_w, k2⟩, k3⟩ := h4
        obtain ⟨v, h', f1_w, f2_w, f3_w, f4_w, f5_w, -⟩ := q_ok (xs := xs) (L := L) (ck := ck) (cW := cW) hT_w hF hW hB_w a _ us τt τf hq _ hh hQ hpad
        obtain ⟨w, rfl, hw⟩ := IL.one (IL.sub k2 f4_w)
        refine ⟨[w], h', ?_, f2_w, f3_w, IL.sub k1_w f4_w, fun h0 => ?_⟩
        · rw [hbody]
          show (((evE xs L ck (evF xs L ck K cW M n) cW a _ _).bind fun x => if j_hd x.1 = 0 ∨ j_hd x.1 = 1 then some (1, x.1, _, x.2) else none).bind _) = _
          rw [f1_w, Option.bind_some]
          dsimp only
          rw [if_pos (show j_hd [w] = 0 ∨ j_hd [w] = 1 from iv_bool hw), Option.bind_some]
          exact if_pos ⟨Or.inl rfl, Nat.le_refl _, Nat.le_refl _, List.isPrefixOf_iff_prefix.mpr (List.prefix_refl _)⟩
        · have h7 := IL.take (qP T f).length (f5_w h0)
          rw [← hl, take_pad] at h7
          rw [hl] at h7
          exact IL.sub k3 h7
      · cases h4
    · cases h4
  · split at h5
    · rename_i ho
      obtain ⟨c, vals_w, en', h', e1_w, e2_w, e3_w, e4_w⟩ := (qS_ok (xs := xs) (L := L) (ck := ck) (cW := cW) (K := K) (rt := qR T f) hT_w hJ hF hW hB_w hK_w (M f).2.2.2.2).1 _ _ ho _ hh hQ hpad
      rcases e4_w with ⟨-, τ, k, -⟩ | ⟨rfl, k⟩ | ⟨-, τ, k, -⟩ | ⟨-, τ, k, -⟩
      · cases k
      · refine ⟨vals_w, h', ?_, e2_w, e3_w, k, fun _ => IL.sub h4 hv⟩
        rw [e1_w, Option.bind_some]
        exact if_pos ⟨Or.inl rfl, Nat.le_refl _, Nat.le_refl _, List.isPrefixOf_iff_prefix.mpr (List.prefix_refl _)⟩
      · cases k
      · cases k
    · cases h5
end QV
