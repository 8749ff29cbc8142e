/-! ===== the third reading: every statement, every method ===== -/
section TYV
variable {xs : Nat → Int} {L K : Nat} {ck : Nat → List Nat} {F : XP} {cW : Nat → Nat → Int} {T : TT} {g : XS × Nat × Nat} {ro : Nat → Nat → Bool} {rt : List Nat} {thr : Bool}
theorem leO_rf {o : TO} : leO o o := ⟨fun τ e => ⟨τ, e, sub_rf⟩, fun τ e => ⟨τ, e, sub_rf⟩, fun τ e => ⟨τ, e, sub_rf⟩⟩
theorem ty_S (hg : GG T.1 g.1) (hTG : TG T) (hcW : ∀ k, k < 24 → InL (cW 0 k) ∧ InI (cW 1 k)) (hF : ∀ f, T.2.2.2.1 f = true → TotF T g ro F f) (hW : WK T g.1 ro) (hK : 4294967300 ≤ K) (hrt : rt.all (fun t => Nat.blt t 300) = true) : ∀ (t : SX),
    (∀ z τ o, (tyS T rt thr t).1 τ = some o → TotS T g ro z rt thr τ o (evS xs L ck F K cW t)) ∧ (∀ z τ o, (tyS T rt thr t).2 τ = some o → TotC T g ro z rt thr τ o (evS xs L ck F K cW t))
  | .op (.var t) (.op a (.op b c)) => by
    have iA := ty_S hg hTG hcW hF hW hK hrt a
    have iB := ty_S hg hTG hcW hF hW hK hrt b
    have iC := ty_S hg hTG hcW hF hW hK hrt c
    have e := fun t z τ us h => ty_all (xs := xs) (L := L) (ck := ck) hg hTG hcW hF t z τ us h
    have e1 : ∀ (t : SX) z τ u, t_one (tyF T τ t) = u → u ≠ 0 → TotE T g ro z τ [u] (evE xs L ck F cW t) := fun t z τ u h h0 => e t z τ _ (t_one_some h h0)
    constructor
    · intro z τ o h
      show TotS T g ro z rt thr τ o (nodeS xs L ck F K cW t a b c (evS xs L ck F K cW a) (evS xs L ck F K cW b) (evS xs L ck F K cW c))
      have h : (tySN T rt thr t a b c (tyS T rt thr a) (tyS T rt thr b) (tyS T rt thr c)).1 τ = some o := h
      unfold tySN at h
      dsimp only at h
      split at h
      · cases h; exact st_skip
      · cases h; exact st_skip
      · obtain ⟨o1, h1, h⟩ := j_bd h
        have hA := iA.1 z τ o1 h1
        split at h
        · rename_i hn
          cases h
          exact st_seq (q := o) hA (fun τ1 k => by rw [hn] at k; cases k) ⟨fun τ k => (by cases k), fun τ k => ⟨τ, k, sub_rf⟩, fun τ k => ⟨τ, k, sub_rf⟩⟩ (fun k => absurd hn k)
        · rename_i τ1 hn
          obtain ⟨q, h2, h⟩ := j_bd h
          exact st_seq hA (fun τ2 k => by rw [hn] at k; cases k; exact iB.1 z τ1 q h2) (joins_l h) (fun _ => joins_r h)
      · obtain ⟨⟨h1, h2⟩, h⟩ := j_if h
        cases h
        intro en hh hv hH
        obtain ⟨v, h', f1, f2, f3, f4⟩ := te_one (e1 b z τ _ rfl h1) hv hH
        refine ⟨0, [], en.set (sx_n a) v, g, h', ?_, f2, f3, Or.inl ⟨rfl, rfl, _, rfl, VL.set (sx_n a) hv f4⟩⟩
        show (evE xs L ck F cW b en (g, hh)).bind _ = _
        rw [f1]
        rfl
      · obtain ⟨h1, h⟩ := j_if h
        cases h
        exact fun en hh hv hH => ⟨0, [], _, g, hh, rfl, hH, FR.rf, Or.inl ⟨rfl, rfl, _, rfl, VL.set (sx_n a) hv (TV.int (in_j32 _))⟩⟩
      · skip
        obtain ⟨⟨h1, h2, h3, h4⟩, h⟩ := j_if h
        cases h
        rcases h4 with ⟨h4, h5⟩ | ⟨h4, h5⟩
        · refine st_put hW (e1 a z τ _ rfl (by omega)) (e1 b z τ _ rfl (isI_0 h5)) h1 h2 h3 (fun _ _ w => w) (fun st v w hw => ⟨fun _ => isI_in h5 hw, fun k => absurd (h4.symm.trans k) (by decide), fun k => absurd (h4.symm.trans k) (by decide)⟩) (fun en st st1 st2 v w k1 k2 _ => ?_)
          show s_putf _ _ _ en st = _
          unfold s_putf
          rw [k1, Option.bind_some, k2]
          rfl
        · refine st_put hW (e1 a z τ _ rfl (by omega)) (e1 b z τ 2 h5 (by decide)) h1 h2 h3 (fun _ _ w => w) (fun st v w hw => ⟨fun k => absurd (h4.symm.trans k) (by decide), fun _ => hw.2.1 rfl, fun k => absurd (h4.symm.trans k) (by decide)⟩) (fun en st st1 st2 v w k1 k2 _ => ?_)
          show s_putf _ _ _ en st = _
          unfold s_putf
          rw [k1, Option.bind_some, k2]
          rfl
      · skip
        obtain ⟨⟨h1, h2, h3, h4, h5⟩, h⟩ := j_if h
        cases h
        refine st_put hW (e1 a z τ _ rfl (by omega)) (e1 b z τ _ rfl (isI_0 h5)) h1 h2 h3 (fun st v w => j_iop (sx_n c % 16) (st.2 v.toNat (sx_n c / 16)) w) (fun st v w hw => ⟨fun _ => iop_in _ _ _, fun k => absurd (h4.symm.trans k) (by decide), fun k => absurd (h4.symm.trans k) (by decide)⟩) (fun en st st1 st2 v w k1 k2 _ => ?_)
        show s_putfC _ _ _ _ en st = _
        unfold s_putfC
        rw [k1, Option.bind_some, k2]
        rfl
      · skip
        obtain ⟨⟨h1, h2, h3, h4, h5⟩, h⟩ := j_if h
        cases h
        refine st_put hW (e1 a z τ _ rfl (by omega)) (e1 b z τ 100 h5 (by decide)) h1 h2 h3 (fun _ _ w => w) (fun st v w hw => ⟨fun k => absurd (h4.symm.trans k) (by decide), fun k => absurd (h4.symm.trans k) (by decide), fun _ => hw.2.2.1 rfl⟩) (fun en st st1 st2 v w k1 k2 hw => ?_)
        show (evE xs L ck F cW a en st).bind _ = _
        rw [k1, Option.bind_some]
        dsimp only
        rw [k2, Option.bind_some]
        exact if_pos (hw.2.2.1 rfl)
      · split at h
        · rename_i us hus
          cases h
          intro en hh hv hH
          obtain ⟨v, h', f1, f2, f3, f4⟩ := e a z τ us hus en hh hv hH
          refine ⟨0, [], en, g, h', ?_, f2, f3, Or.inl ⟨rfl, rfl, _, rfl, hv⟩⟩
          show (evE xs L ck F cW a en (g, hh)).bind _ = _
          rw [f1]
          rfl
        · cases h
      · obtain ⟨h1, h⟩ := first_some h
        obtain ⟨o1, h2, h⟩ := j_bd h
        exact st_if (e a z τ _ h1) (iB.1 z τ o1 h2) st_skip (joins_l h) (joins_r h)
      · obtain ⟨h1, h⟩ := first_some h
        obtain ⟨o1, h2, h⟩ := j_bd h
        obtain ⟨o2, h3, h⟩ := j_bd h
        exact st_if (e a z τ _ h1) (iB.1 z τ o1 h2) (iC.1 z τ o2 h3) (joins_l h) (joins_r h)
      · obtain ⟨h1, h⟩ := first_some h
        obtain ⟨o1, h2, h⟩ := j_bd h
        exact st_if (e a z τ _ h1) (iB.1 z τ o1 h2) st_brk (joins_l h) (joins_r h)
      · split at h
        · rename_i i u c3 hst
          obtain ⟨h1, h⟩ := j_ifx h
          obtain ⟨p1, p2, p3⟩ := step_ok (xs := xs) (L := L) (ck := ck) (F := F) (K := K) (cW := cW) hst
          refine lp_ok (u := u) hK hrt (fun z τ us k => e a z τ us k) (fun en hp v h' k1 k2 k3 k4 z τ us k5 k6 => ?_) (fun _ z τ o k => iB.1 z τ o k) p1 p2 p3 6 τ o h z
          cases u with
          | true =>
            have h1 : lp_up i a = true := h1
            exact up_ok hg hTG hcW hF k6 a hp h' v us h1 k5 k3 k1 k2
          | false =>
            have h1 : lp_dn i a = true := h1
            exact dn_ok hg hTG hcW hF k6 a hp h' v us h1 k5 k3 k1 k2
        · cases h
      · cases h; exact st_brk
      · cases h; exact st_cnt
      · split at h
        · rename_i us hus
          obtain ⟨h1, h⟩ := j_if h
          cases h
          intro en hh hv hH
          obtain ⟨v, h', f1, f2, f3, f4⟩ := e a z τ us hus en hh hv hH
          refine ⟨1, v, en, g, h', ?_, f2, f3, Or.inr (Or.inl ⟨rfl, rfl, VL.sub h1 f4⟩)⟩
          show (evE xs L ck F cW a en (g, hh)).bind _ = _
          rw [f1]
          rfl
        · cases h
      · obtain ⟨⟨h1, h2⟩, h⟩ := j_if h
        cases h
        intro en hh hv hH
        obtain ⟨v, h', f1, f2, f3, f4⟩ := te_one (e1 a z τ 100 h1 (by decide)) hv hH
        refine ⟨1, [v], en, g, h', ?_, f2, f3, Or.inr (Or.inl ⟨rfl, rfl, by rw [h2]; exact ⟨f4, trivial⟩⟩)⟩
        show (evE xs L ck F cW a en (g, hh)).bind _ = _
        rw [f1, Option.bind_some]
        exact if_pos (f4.2.2.1 rfl)
      · obtain ⟨h1, h⟩ := j_if h
        cases h
        exact fun en hh hv hH => ⟨1, [], en, g, hh, rfl, hH, FR.rf, Or.inr (Or.inl ⟨rfl, rfl, by rw [h1]; exact trivial⟩)⟩
      · obtain ⟨h1, h⟩ := j_if h
        cases h
        exact fun en hh hv hH => ⟨4, [], en, (g.1, g.2.1 + 1, g.2.2 + 6), hh, rfl, hH, FR.rf, Or.inr (Or.inr (Or.inr (Or.inr ⟨rfl, h1, rfl⟩)))⟩
      · obtain ⟨h1, h⟩ := first_some h
        obtain ⟨o1, h2, h⟩ := j_bd h
        obtain ⟨ex, h3, h⟩ := j_bd h
        cases h
        exact st_sw (e a z τ _ h1) (iB.2 z τ o1 h2) h3
      · exact iA.1 z τ o h
      · cases h
    · intro z τ o h
      show TotC T g ro z rt thr τ o (nodeS xs L ck F K cW t a b c (evS xs L ck F K cW a) (evS xs L ck F K cW b) (evS xs L ck F K cW c))
      have h : (tySN T rt thr t a b c (tyS T rt thr a) (tyS T rt thr b) (tyS T rt thr c)).2 τ = some o := h
      unfold tySN at h
      dsimp only at h
      split at h
      · obtain ⟨o1, h1, h⟩ := j_bd h
        obtain ⟨h2, h⟩ := j_ifx h
        obtain ⟨q, h3, h⟩ := j_bd h
        exact st_case (iB.1 z τ o1 h1) h2 (iC.2 z τ q h3) (joins_l h) (joins_r h)
      · exact fun v en hh hv hH => iA.1 z τ o h en hh hv hH
      · cases h
  | .var _ => ⟨fun _ _ _ h => (by cases h), fun _ _ _ h => (by cases h)⟩
  | .op (.op _ _) _ => ⟨fun _ _ _ h => (by cases h), fun _ _ _ h => (by cases h)⟩
  | .op (.var _) (.var _) => ⟨fun _ _ _ h => (by cases h), fun _ _ _ h => (by cases h)⟩
  | .op (.var _) (.op _ (.var _)) => ⟨fun _ _ _ h => (by cases h), fun _ _ _ h => (by cases h)⟩
end TYV
